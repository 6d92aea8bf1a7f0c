theorem in_X5_symbol_X5 : ∀ w ∈ u_ws RX5 TX5 30, w ∈ wsX5_symbol := by decide +kernel
def f_X5_symbol_53 (N : Nat) (σ : St) (s0 : Int32) : Option (Int32 × St) := some (s0, σ)
def f_X5_symbol_26 (N : Nat) (σ : St) (x1 x2 s1 : Int32) : Option (Int32 × St) := bnd (up2 σ 0 0 s1) (fun σ1 => if (σ1 0 0) ≤ 0 then if x1 < 0 ∨ 4201 ≤ (x1).toNatClampNeg then none else if ((σ1 19 (x1).toNatClampNeg) + x2) < 0 ∨ 34100 ≤ (((σ1 19 (x1).toNatClampNeg) + x2)).toNatClampNeg then none else f_X5_symbol_53 N σ1 (σ1 20 (((σ1 19 (x1).toNatClampNeg) + x2)).toNatClampNeg) else f_X5_symbol_53 N σ1 0)
def f_X5_symbol_21 (N : Nat) (σ : St) (x1 x2 : Int32) : Option (Int32 × St) := f_X5_symbol_26 N σ x1 x2 1
def f_X5_symbol (N : Nat) (σ : St) (x1 x2 : Int32) : Option (Int32 × St) := (f_X5_isTerm N σ x1).bind (fun q1 => if q1.1 = 0 then f_X5_symbol_21 N q1.2 x1 x2 else (f_X5_lengthOf N q1.2 x1).bind (fun q3 => (f_X5_outside N x2 q3.1).bind (fun q4 => if q4.1 = 0 then f_X5_symbol_26 N q3.2 x1 x2 0 else f_X5_symbol_21 N q3.2 x1 x2)))
abbrev KP_X5_symbol_53 (p : Program) (l : Launch) (e : Env) (s : State) (m : MethodId) (args : Array Value) (below : List Frame) (meth : Method) (c : Code) (D : va_G) (cI cZ : ClassId) (a5 : Nat → Nat) (A : Nat → Prop) (r : Int32) (u1 : St) (K : St → Int32 → Option (Int32 × St)) : Prop := ∀ (σ : St) (s0 : Int32) (H : Heap) (locs : List Loc) (ls : Array Slot), va_P D vwCl (wX5 a5 cI cZ σ) H → va_D A (wX5 a5 cI cZ σ) → va_S A s.heap H locs → lv_has ls 3 [] → K σ s0 = some (r, u1) → W p l e ({ frames := 2, cells := 0, slots := 0, locals := 42 } : Room) s m args below meth c H locs 0 0 (QI below args s D cI cZ (wX5 a5 cI cZ) A r u1) (F0 m 53 ls [.int s0])
abbrev KP_X5_symbol_26 (p : Program) (l : Launch) (e : Env) (s : State) (m : MethodId) (args : Array Value) (below : List Frame) (meth : Method) (c : Code) (D : va_G) (cI cZ : ClassId) (a5 : Nat → Nat) (A : Nat → Prop) (r : Int32) (u1 : St) (K : St → Int32 → Int32 → Int32 → Option (Int32 × St)) : Prop := ∀ (σ : St) (x1 x2 s1 : Int32) (H : Heap) (locs : List Loc) (ls : Array Slot), va_P D vwCl (wX5 a5 cI cZ σ) H → va_D A (wX5 a5 cI cZ σ) → va_S A s.heap H locs → lv_has ls 3 [(0, .ref (a5 0)), (1, .int x1), (2, .int x2)] → K σ x1 x2 s1 = some (r, u1) → W p l e ({ frames := 2, cells := 0, slots := 0, locals := 42 } : Room) s m args below meth c H locs 0 0 (QI below args s D cI cZ (wX5 a5 cI cZ) A r u1) (F0 m 26 ls [.int s1, .ref (a5 0)])
abbrev KP_X5_symbol_21 (p : Program) (l : Launch) (e : Env) (s : State) (m : MethodId) (args : Array Value) (below : List Frame) (meth : Method) (c : Code) (D : va_G) (cI cZ : ClassId) (a5 : Nat → Nat) (A : Nat → Prop) (r : Int32) (u1 : St) (K : St → Int32 → Int32 → Option (Int32 × St)) : Prop := ∀ (σ : St) (x1 x2 : Int32) (H : Heap) (locs : List Loc) (ls : Array Slot), va_P D vwCl (wX5 a5 cI cZ σ) H → va_D A (wX5 a5 cI cZ σ) → va_S A s.heap H locs → lv_has ls 3 [(0, .ref (a5 0)), (1, .int x1), (2, .int x2)] → K σ x1 x2 = some (r, u1) → W p l e ({ frames := 2, cells := 0, slots := 0, locals := 42 } : Room) s m args below meth c H locs 0 0 (QI below args s D cI cZ (wX5 a5 cI cZ) A r u1) (F0 m 21 ls [.ref (a5 0)])
set_option maxHeartbeats 4000000 in
set_option maxRecDepth 100000 in
theorem k_X5_symbol_53 {p : Program} {l : Launch} {e : Env} {s : State} {m : MethodId} {args : Array Value} {below : List Frame} {meth : Method} {c : Code} {D : va_G} {cI cZ : ClassId} {a5 : Nat → Nat} {A : Nat → Prop} {r : Int32} {u1 : St} (C0 : mB p s m args meth c D cI cZ A cX5_symbol 3 (some .int) wsX5_symbol RX5) (N : Nat) : KP_X5_symbol_53 p l e s m args below meth c D cI cZ a5 A r u1 (f_X5_symbol_53 N) := by
  obtain ⟨hx, hb, hml, hr, hown, hts, hlocks, hA, hK, hN⟩ := id C0
  intro σ s0 H locs ls hP hD hS hl h
  unfold f_X5_symbol_53 at h
  obtain ⟨rfl, rfl⟩ := so h
  exact ret_i C0 hP hD hS dX5_symbol_53
set_option maxHeartbeats 4000000 in
set_option maxRecDepth 100000 in
theorem k_X5_symbol_26 {p : Program} {l : Launch} {e : Env} {s : State} {m : MethodId} {args : Array Value} {below : List Frame} {meth : Method} {c : Code} {D : va_G} {cI cZ : ClassId} {a5 : Nat → Nat} {A : Nat → Prop} {r : Int32} {u1 : St} (C0 : mB p s m args meth c D cI cZ A cX5_symbol 3 (some .int) wsX5_symbol RX5) (N : Nat) : KP_X5_symbol_26 p l e s m args below meth c D cI cZ a5 A r u1 (f_X5_symbol_26 N) := by
  obtain ⟨hx, hb, hml, hr, hown, hts, hlocks, hA, hK, hN⟩ := id C0
  intro σ x1 x2 s1 H locs ls hP hD hS hl h
  unfold f_X5_symbol_26 at h
  refine va_put (D := D) (ci := 5) (v := .int s1) (ty := .int) (C := RX5) (T := TX5) (N := 30) hx hb hts in_X5_symbol_X5 tyX5 tyX5_ok nmX5 hown hK hP hD hS 0 rfl rfl 0 (by decide) (hts (.fieldLink RX5 85 "TermLoomModel" "code" "I") (by decide +kernel)) (fun _ h9 => h9) rfl (by decide +kernel) rfl rfl (Nat.le_of_ble_eq_true rfl) dX5_symbol_26 (fun H locs hP hD hS => ?_)
  obtain ⟨σ1, eσ1, h⟩ := bn h
  have hP : va_P D vwCl (wX5 a5 cI cZ σ1) H := by rw [eσ1]; exact hP
  have hD : va_D A (wX5 a5 cI cZ σ1) := by rw [eσ1]; exact hD
  refine lv_aload_n hx hb dX5_symbol_29 rfl (lv_at hl 0 rfl) ?_
  refine va_get (D := D) (ci := 5) (v := .int (σ1 0 0)) (C := RX5) (T := TX5) (N := 30) hx hb hts in_X5_symbol_X5 hown hK hP 0 rfl rfl 0 (by decide) (hts (.fieldLink RX5 85 "TermLoomModel" "code" "I") (by decide +kernel)) (fun _ h9 => h9) rfl dX5_symbol_30 ?_
  refine lv_if_le (tgt := 40) hx hb dX5_symbol_33 (by decide) (fun hc2 => ?_) (fun hc2 => ?_)
  · rw [if_pos hc2] at h
    refine lv_aload_n hx hb dX5_symbol_40 rfl (lv_at hl 0 rfl) ?_
    refine va_get (D := D) (ci := 5) (v := .ref (a5 21)) (C := RX5) (T := TX5) (N := 30) hx hb hts in_X5_symbol_X5 hown hK hP 0 rfl rfl 20 (by decide) (hts (.fieldLink RX5 55 "TermLoomModel" "symbol" "[I") (by decide +kernel)) (fun _ h9 => h9) rfl dX5_symbol_41 ?_
    refine lv_aload_n hx hb dX5_symbol_44 rfl (lv_at hl 0 rfl) ?_
    refine va_get (D := D) (ci := 5) (v := .ref (a5 20)) (C := RX5) (T := TX5) (N := 30) hx hb hts in_X5_symbol_X5 hown hK hP 0 rfl rfl 19 (by decide) (hts (.fieldLink RX5 51 "TermLoomModel" "begin" "[I") (by decide +kernel)) (fun _ h9 => h9) rfl dX5_symbol_45 ?_
    refine lv_iload_n hx hb dX5_symbol_48 rfl (lv_at hl 1 rfl) ?_
    by_cases hi : x1 < 0 ∨ 4201 ≤ (x1).toNatClampNeg
    · rw [if_pos hi] at h; exact no h
    rw [if_neg hi] at h
    refine va_iald (f := (σ1 19)) hx hb hK hP 13 0 rfl rfl (i := x1) hi dX5_symbol_49 ?_
    refine lv_iload_n hx hb dX5_symbol_50 rfl (lv_at hl 2 rfl) ?_
    refine lv_iadd hx hb dX5_symbol_51 ?_
    by_cases hi : ((σ1 19 (x1).toNatClampNeg) + x2) < 0 ∨ 34100 ≤ (((σ1 19 (x1).toNatClampNeg) + x2)).toNatClampNeg
    · rw [if_pos hi] at h; exact no h
    rw [if_neg hi] at h
    refine va_iald (f := (σ1 20)) hx hb hK hP 14 0 rfl rfl (i := ((σ1 19 (x1).toNatClampNeg) + x2)) hi dX5_symbol_52 ?_
    exact k_X5_symbol_53 C0 N σ1 (σ1 20 (((σ1 19 (x1).toNatClampNeg) + x2)).toNatClampNeg) _ _ _ hP hD hS (lv_sub hl [] rfl) h
  · rw [if_neg hc2] at h
    refine lv_iconst (v := 0) hx hb dX5_symbol_36 rfl ?_
    refine lv_goto (tgt := 53) hx hb dX5_symbol_37 (by decide) ?_
    exact k_X5_symbol_53 C0 N σ1 0 _ _ _ hP hD hS (lv_sub hl [] rfl) h
set_option maxHeartbeats 4000000 in
set_option maxRecDepth 100000 in
theorem k_X5_symbol_21 {p : Program} {l : Launch} {e : Env} {s : State} {m : MethodId} {args : Array Value} {below : List Frame} {meth : Method} {c : Code} {D : va_G} {cI cZ : ClassId} {a5 : Nat → Nat} {A : Nat → Prop} {r : Int32} {u1 : St} (C0 : mB p s m args meth c D cI cZ A cX5_symbol 3 (some .int) wsX5_symbol RX5) (N : Nat) : KP_X5_symbol_21 p l e s m args below meth c D cI cZ a5 A r u1 (f_X5_symbol_21 N) := by
  obtain ⟨hx, hb, hml, hr, hown, hts, hlocks, hA, hK, hN⟩ := id C0
  intro σ x1 x2 H locs ls hP hD hS hl h
  unfold f_X5_symbol_21 at h
  refine lv_iconst (v := 1) hx hb dX5_symbol_21 rfl ?_
  refine lv_goto (tgt := 26) hx hb dX5_symbol_22 (by decide) ?_
  exact k_X5_symbol_26 C0 N σ x1 x2 1 _ _ _ hP hD hS (lv_sub hl [0, 1, 2] rfl) h
set_option maxHeartbeats 4000000 in
set_option maxRecDepth 100000 in
theorem c_X5_symbol (l : Launch) (D : va_G) (cI cZ : ClassId) (a5 : Nat → Nat) (N : Nat) (σ : St) (x1 x2 : Int32) : MI l yX5_symbol wsX5_symbol ({ frames := 2, cells := 0, slots := 0, locals := 42 } : Room) D cI cZ (wX5 a5 cI cZ) [.ref (a5 0), .int x1, .int x2] σ (f_X5_symbol N σ x1 x2) := by
  refine MI.of (cc := cX5_symbol) (maxL := 3) (ret := (some .int)) (own := RX5) (by decide) rfl rfl (Nat.le_of_ble_eq_true rfl) ?_
  intro r u1 h p e s m args below meth c A C0 H locs ls hP hD hS hl
  obtain ⟨hx, hb, hml, hr, hown, hts, hlocks, hA, hK, hN⟩ := id C0
  have hl : lv_has ls 3 [(0, .ref (a5 0)), (1, .int x1), (2, .int x2)] := hl
  unfold f_X5_symbol at h
  refine lv_aload_n hx hb dX5_symbol_0 rfl (lv_at hl 0 rfl) ?_
  refine lv_aload_n hx hb dX5_symbol_1 rfl (lv_at hl 0 rfl) ?_
  refine lv_iload_n hx hb dX5_symbol_2 rfl (lv_at hl 1 rfl) ?_
  obtain ⟨q1, hq1, h⟩ := ob h
  refine mc_i (ws' := wX5 a5 cI cZ q1.2) (wr := ([] : va_W)) [0, 1, 2, 3, 4, 5, 6, 7, 8, 9, 10, 11, 12, 13, 14, 15, 16, 17, 18, 19, 20, 21, 22] [] [0, 1, 2, 3, 4, 5, 6, 7, 8, 9, 10, 11, 12, 13, 14, 15, 16, 17, 18, 19, 20, 21, 22] (va_runV (As := [.int x1]) (rest := [.ref (a5 0)]) ⟨hx, hb, hml, hown, hts⟩ (c_X5_isTerm l D cI cZ a5 N σ x1 q1.1 q1.2 hq1 H.size) (cwV 1 hts gX5_symbol_X5_isTerm rfl rfl rfl (by decide +kernel) ⟨Nat.le_of_ble_eq_true rfl, Nat.le_of_ble_eq_true rfl⟩) (pV [0, 1, 2, 3, 4, 5, 6, 7, 8, 9, 10, 11, 12, 13, 14, 15, 16, 17, 18, 19, 20, 21, 22] hP hD hK hN rfl rfl rfl rfl) rfl rfl hl.1 rfl (lv_room (Nat.le_of_ble_eq_true rfl)) dX5_symbol_3 ⟨Nat.le_of_ble_eq_true rfl, Nat.le_of_ble_eq_true rfl⟩) hP hD hS hA rfl rfl rfl (by decide) rfl rfl (fun H locs hP hD hS => ?_)
  refine lv_if_eq (tgt := 21) hx hb dX5_symbol_6 (by decide) (fun hc2 => ?_) (fun hc2 => ?_)
  · rw [if_pos hc2] at h
    exact k_X5_symbol_21 C0 N q1.2 x1 x2 _ _ _ hP hD hS (lv_sub hl [0, 1, 2] rfl) h
  · rw [if_neg hc2] at h
    refine lv_iload_n hx hb dX5_symbol_9 rfl (lv_at hl 2 rfl) ?_
    refine lv_aload_n hx hb dX5_symbol_10 rfl (lv_at hl 0 rfl) ?_
    refine lv_iload_n hx hb dX5_symbol_11 rfl (lv_at hl 1 rfl) ?_
    obtain ⟨q3, hq3, h⟩ := ob h
    refine mc_i (ws' := wX5 a5 cI cZ q3.2) (wr := ([] : va_W)) [0, 1, 2, 3, 4, 5, 6, 7, 8, 9, 10, 11, 12, 13, 14, 15, 16, 17, 18, 19, 20, 21, 22] [] [0, 1, 2, 3, 4, 5, 6, 7, 8, 9, 10, 11, 12, 13, 14, 15, 16, 17, 18, 19, 20, 21, 22] (va_runV (As := [.int x1]) (rest := [.int x2, .ref (a5 0)]) ⟨hx, hb, hml, hown, hts⟩ (c_X5_lengthOf l D cI cZ a5 N q1.2 x1 q3.1 q3.2 hq3 H.size) (cwV 1 hts gX5_symbol_X5_lengthOf rfl rfl rfl (by decide +kernel) ⟨Nat.le_of_ble_eq_true rfl, Nat.le_of_ble_eq_true rfl⟩) (pV [0, 1, 2, 3, 4, 5, 6, 7, 8, 9, 10, 11, 12, 13, 14, 15, 16, 17, 18, 19, 20, 21, 22] hP hD hK hN rfl rfl rfl rfl) rfl rfl hl.1 rfl (lv_room (Nat.le_of_ble_eq_true rfl)) dX5_symbol_12 ⟨Nat.le_of_ble_eq_true rfl, Nat.le_of_ble_eq_true rfl⟩) hP hD hS hA rfl rfl rfl (by decide) rfl rfl (fun H locs hP hD hS => ?_)
    obtain ⟨q4, hq4, h⟩ := ob h
    refine mc_i (ws' := wX5 a5 cI cZ q3.2) (wr := ((wX5o a5 cI cZ q3.2) : va_W)) [] [0, 1, 2, 3, 4, 5, 6, 7, 8, 9, 10, 11, 12, 13, 14, 15, 16, 17, 18, 19, 20, 21, 22] [0, 1, 2, 3, 4, 5, 6, 7, 8, 9, 10, 11, 12, 13, 14, 15, 16, 17, 18, 19, 20, 21, 22] (va_runS (As := [.int x2, .int q3.1]) (rest := [.ref (a5 0)]) ⟨hx, hb, hml, hown, hts⟩ (c_X5_outside l D cI cZ N x2 q3.1 q4.1 q4.2 hq4 H.size) (va_cwS 2 hts gX5_symbol_X5_outside rfl rfl rfl (by decide +kernel) ⟨Nat.le_of_ble_eq_true rfl, Nat.le_of_ble_eq_true rfl⟩) (pS [] hP hD hK hN rfl rfl) rfl rfl hl.1 rfl (lv_room (Nat.le_of_ble_eq_true rfl)) dX5_symbol_15 ⟨Nat.le_of_ble_eq_true rfl, Nat.le_of_ble_eq_true rfl⟩) hP hD hS hA rfl rfl rfl (by decide) rfl rfl (fun H locs hP hD hS => ?_)
    refine lv_if_eq (tgt := 25) hx hb dX5_symbol_18 (by decide) (fun hc5 => ?_) (fun hc5 => ?_)
    · rw [if_pos hc5] at h
      refine lv_iconst (v := 0) hx hb dX5_symbol_25 rfl ?_
      exact k_X5_symbol_26 C0 N q3.2 x1 x2 0 _ _ _ hP hD hS (lv_sub hl [0, 1, 2] rfl) h
    · rw [if_neg hc5] at h
      exact k_X5_symbol_21 C0 N q3.2 x1 x2 _ _ _ hP hD hS (lv_sub hl [0, 1, 2] rfl) h

theorem in_X5_measure_X5 : ∀ w ∈ u_ws RX5 TX5 30, w ∈ wsX5_measure := by decide +kernel
def f_X5_measure_60 (N : Nat) (σ : St) (s0 : Int32) : Option (Int32 × St) := some (s0, σ)
def f_X5_measure_26 (N : Nat) (σ : St) (x1 x2 s1 : Int32) : Option (Int32 × St) := bnd (up2 σ 0 0 s1) (fun σ1 => if (σ1 0 0) ≤ 0 then if x2 = 0 then (f_X5_lengthOf N σ1 x1).bind (fun q5 => f_X5_measure_60 N q5.2 q5.1) else if x1 < 0 ∨ 4201 ≤ (x1).toNatClampNeg then none else (f_X5_heightOf N σ1 (σ1 19 (x1).toNatClampNeg)).bind (fun q4 => f_X5_measure_60 N q4.2 q4.1) else some (0, σ1))
def f_X5_measure (N : Nat) (σ : St) (x1 x2 : Int32) : Option (Int32 × St) := (f_X5_isTerm N σ x1).bind (fun q1 => if q1.1 = 0 then f_X5_measure_26 N q1.2 x1 x2 1 else (f_X5_outside N x2 2).bind (fun q3 => if q3.1 = 0 then f_X5_measure_26 N q1.2 x1 x2 0 else f_X5_measure_26 N q1.2 x1 x2 2))
abbrev KP_X5_measure_60 (p : Program) (l : Launch) (e : Env) (s : State) (m : MethodId) (args : Array Value) (below : List Frame) (meth : Method) (c : Code) (D : va_G) (cI cZ : ClassId) (a5 : Nat → Nat) (A : Nat → Prop) (r : Int32) (u1 : St) (K : St → Int32 → Option (Int32 × St)) : Prop := ∀ (σ : St) (s0 : Int32) (H : Heap) (locs : List Loc) (ls : Array Slot), va_P D vwCl (wX5 a5 cI cZ σ) H → va_D A (wX5 a5 cI cZ σ) → va_S A s.heap H locs → lv_has ls 3 [] → K σ s0 = some (r, u1) → W p l e ({ frames := 2, cells := 0, slots := 0, locals := 48 } : Room) s m args below meth c H locs 0 0 (QI below args s D cI cZ (wX5 a5 cI cZ) A r u1) (F0 m 60 ls [.int s0])
abbrev KP_X5_measure_26 (p : Program) (l : Launch) (e : Env) (s : State) (m : MethodId) (args : Array Value) (below : List Frame) (meth : Method) (c : Code) (D : va_G) (cI cZ : ClassId) (a5 : Nat → Nat) (A : Nat → Prop) (r : Int32) (u1 : St) (K : St → Int32 → Int32 → Int32 → Option (Int32 × St)) : Prop := ∀ (σ : St) (x1 x2 s1 : Int32) (H : Heap) (locs : List Loc) (ls : Array Slot), va_P D vwCl (wX5 a5 cI cZ σ) H → va_D A (wX5 a5 cI cZ σ) → va_S A s.heap H locs → lv_has ls 3 [(0, .ref (a5 0)), (1, .int x1), (2, .int x2)] → K σ x1 x2 s1 = some (r, u1) → W p l e ({ frames := 2, cells := 0, slots := 0, locals := 48 } : Room) s m args below meth c H locs 0 0 (QI below args s D cI cZ (wX5 a5 cI cZ) A r u1) (F0 m 26 ls [.int s1, .ref (a5 0)])
set_option maxHeartbeats 4000000 in
set_option maxRecDepth 100000 in
theorem k_X5_measure_60 {p : Program} {l : Launch} {e : Env} {s : State} {m : MethodId} {args : Array Value} {below : List Frame} {meth : Method} {c : Code} {D : va_G} {cI cZ : ClassId} {a5 : Nat → Nat} {A : Nat → Prop} {r : Int32} {u1 : St} (C0 : mB p s m args meth c D cI cZ A cX5_measure 3 (some .int) wsX5_measure RX5) (N : Nat) : KP_X5_measure_60 p l e s m args below meth c D cI cZ a5 A r u1 (f_X5_measure_60 N) := by
  obtain ⟨hx, hb, hml, hr, hown, hts, hlocks, hA, hK, hN⟩ := id C0
  intro σ s0 H locs ls hP hD hS hl h
  unfold f_X5_measure_60 at h
  obtain ⟨rfl, rfl⟩ := so h
  exact ret_i C0 hP hD hS dX5_measure_60
set_option maxHeartbeats 4000000 in
set_option maxRecDepth 100000 in
theorem k_X5_measure_26 {p : Program} {l : Launch} {e : Env} {s : State} {m : MethodId} {args : Array Value} {below : List Frame} {meth : Method} {c : Code} {D : va_G} {cI cZ : ClassId} {a5 : Nat → Nat} {A : Nat → Prop} {r : Int32} {u1 : St} (C0 : mB p s m args meth c D cI cZ A cX5_measure 3 (some .int) wsX5_measure RX5) (N : Nat) : KP_X5_measure_26 p l e s m args below meth c D cI cZ a5 A r u1 (f_X5_measure_26 N) := by
  obtain ⟨hx, hb, hml, hr, hown, hts, hlocks, hA, hK, hN⟩ := id C0
  intro σ x1 x2 s1 H locs ls hP hD hS hl h
  unfold f_X5_measure_26 at h
  refine va_put (D := D) (ci := 5) (v := .int s1) (ty := .int) (C := RX5) (T := TX5) (N := 30) hx hb hts in_X5_measure_X5 tyX5 tyX5_ok nmX5 hown hK hP hD hS 0 rfl rfl 0 (by decide) (hts (.fieldLink RX5 85 "TermLoomModel" "code" "I") (by decide +kernel)) (fun _ h9 => h9) rfl (by decide +kernel) rfl rfl (Nat.le_of_ble_eq_true rfl) dX5_measure_26 (fun H locs hP hD hS => ?_)
  obtain ⟨σ1, eσ1, h⟩ := bn h
  have hP : va_P D vwCl (wX5 a5 cI cZ σ1) H := by rw [eσ1]; exact hP
  have hD : va_D A (wX5 a5 cI cZ σ1) := by rw [eσ1]; exact hD
  refine lv_aload_n hx hb dX5_measure_29 rfl (lv_at hl 0 rfl) ?_
  refine va_get (D := D) (ci := 5) (v := .int (σ1 0 0)) (C := RX5) (T := TX5) (N := 30) hx hb hts in_X5_measure_X5 hown hK hP 0 rfl rfl 0 (by decide) (hts (.fieldLink RX5 85 "TermLoomModel" "code" "I") (by decide +kernel)) (fun _ h9 => h9) rfl dX5_measure_30 ?_
  refine lv_if_le (tgt := 38) hx hb dX5_measure_33 (by decide) (fun hc2 => ?_) (fun hc2 => ?_)
  · rw [if_pos hc2] at h
    refine lv_iload_n hx hb dX5_measure_38 rfl (lv_at hl 2 rfl) ?_
    refine lv_if_ne (tgt := 50) hx hb dX5_measure_39 (by decide) (fun hc3 => ?_) (fun hc3 => ?_)
    · rw [if_neg hc3] at h
      refine lv_aload_n hx hb dX5_measure_50 rfl (lv_at hl 0 rfl) ?_
      refine lv_aload_n hx hb dX5_measure_51 rfl (lv_at hl 0 rfl) ?_
      refine va_get (D := D) (ci := 5) (v := .ref (a5 20)) (C := RX5) (T := TX5) (N := 30) hx hb hts in_X5_measure_X5 hown hK hP 0 rfl rfl 19 (by decide) (hts (.fieldLink RX5 51 "TermLoomModel" "begin" "[I") (by decide +kernel)) (fun _ h9 => h9) rfl dX5_measure_52 ?_
      refine lv_iload_n hx hb dX5_measure_55 rfl (lv_at hl 1 rfl) ?_
      by_cases hi : x1 < 0 ∨ 4201 ≤ (x1).toNatClampNeg
      · rw [if_pos hi] at h; exact no h
      rw [if_neg hi] at h
      refine va_iald (f := (σ1 19)) hx hb hK hP 13 0 rfl rfl (i := x1) hi dX5_measure_56 ?_
      obtain ⟨q4, hq4, h⟩ := ob h
      refine mc_i (ws' := wX5 a5 cI cZ q4.2) (wr := ([] : va_W)) [0, 1, 2, 3, 4, 5, 6, 7, 8, 9, 10, 11, 12, 13, 14, 15, 16, 17, 18, 19, 20, 21, 22] [] [0, 1, 2, 3, 4, 5, 6, 7, 8, 9, 10, 11, 12, 13, 14, 15, 16, 17, 18, 19, 20, 21, 22] (va_runV (As := [.int (σ1 19 (x1).toNatClampNeg)]) (rest := []) ⟨hx, hb, hml, hown, hts⟩ (c_X5_heightOf l D cI cZ a5 N σ1 (σ1 19 (x1).toNatClampNeg) q4.1 q4.2 hq4 H.size) (cwV 1 hts gX5_measure_X5_heightOf rfl rfl rfl (by decide +kernel) ⟨Nat.le_of_ble_eq_true rfl, Nat.le_of_ble_eq_true rfl⟩) (pV [0, 1, 2, 3, 4, 5, 6, 7, 8, 9, 10, 11, 12, 13, 14, 15, 16, 17, 18, 19, 20, 21, 22] hP hD hK hN rfl rfl rfl rfl) rfl rfl hl.1 rfl (lv_room (Nat.le_of_ble_eq_true rfl)) dX5_measure_57 ⟨Nat.le_of_ble_eq_true rfl, Nat.le_of_ble_eq_true rfl⟩) hP hD hS hA rfl rfl rfl (by decide) rfl rfl (fun H locs hP hD hS => ?_)
      exact k_X5_measure_60 C0 N q4.2 q4.1 _ _ _ hP hD hS (lv_sub hl [] rfl) h
    · rw [if_pos hc3] at h
      refine lv_aload_n hx hb dX5_measure_42 rfl (lv_at hl 0 rfl) ?_
      refine lv_iload_n hx hb dX5_measure_43 rfl (lv_at hl 1 rfl) ?_
      obtain ⟨q5, hq5, h⟩ := ob h
      refine mc_i (ws' := wX5 a5 cI cZ q5.2) (wr := ([] : va_W)) [0, 1, 2, 3, 4, 5, 6, 7, 8, 9, 10, 11, 12, 13, 14, 15, 16, 17, 18, 19, 20, 21, 22] [] [0, 1, 2, 3, 4, 5, 6, 7, 8, 9, 10, 11, 12, 13, 14, 15, 16, 17, 18, 19, 20, 21, 22] (va_runV (As := [.int x1]) (rest := []) ⟨hx, hb, hml, hown, hts⟩ (c_X5_lengthOf l D cI cZ a5 N σ1 x1 q5.1 q5.2 hq5 H.size) (cwV 1 hts gX5_measure_X5_lengthOf rfl rfl rfl (by decide +kernel) ⟨Nat.le_of_ble_eq_true rfl, Nat.le_of_ble_eq_true rfl⟩) (pV [0, 1, 2, 3, 4, 5, 6, 7, 8, 9, 10, 11, 12, 13, 14, 15, 16, 17, 18, 19, 20, 21, 22] hP hD hK hN rfl rfl rfl rfl) rfl rfl hl.1 rfl (lv_room (Nat.le_of_ble_eq_true rfl)) dX5_measure_44 ⟨Nat.le_of_ble_eq_true rfl, Nat.le_of_ble_eq_true rfl⟩) hP hD hS hA rfl rfl rfl (by decide) rfl rfl (fun H locs hP hD hS => ?_)
      refine lv_goto (tgt := 60) hx hb dX5_measure_47 (by decide) ?_
      exact k_X5_measure_60 C0 N q5.2 q5.1 _ _ _ hP hD hS (lv_sub hl [] rfl) h
  · rw [if_neg hc2] at h
    refine lv_iconst (v := 0) hx hb dX5_measure_36 rfl ?_
    obtain ⟨rfl, rfl⟩ := so h
    exact ret_i C0 hP hD hS dX5_measure_37
set_option maxHeartbeats 4000000 in
set_option maxRecDepth 100000 in
theorem c_X5_measure (l : Launch) (D : va_G) (cI cZ : ClassId) (a5 : Nat → Nat) (N : Nat) (σ : St) (x1 x2 : Int32) : MI l yX5_measure wsX5_measure ({ frames := 2, cells := 0, slots := 0, locals := 48 } : Room) D cI cZ (wX5 a5 cI cZ) [.ref (a5 0), .int x1, .int x2] σ (f_X5_measure N σ x1 x2) := by
  refine MI.of (cc := cX5_measure) (maxL := 3) (ret := (some .int)) (own := RX5) (by decide) rfl rfl (Nat.le_of_ble_eq_true rfl) ?_
  intro r u1 h p e s m args below meth c A C0 H locs ls hP hD hS hl
  obtain ⟨hx, hb, hml, hr, hown, hts, hlocks, hA, hK, hN⟩ := id C0
  have hl : lv_has ls 3 [(0, .ref (a5 0)), (1, .int x1), (2, .int x2)] := hl
  unfold f_X5_measure at h
  refine lv_aload_n hx hb dX5_measure_0 rfl (lv_at hl 0 rfl) ?_
  refine lv_aload_n hx hb dX5_measure_1 rfl (lv_at hl 0 rfl) ?_
  refine lv_iload_n hx hb dX5_measure_2 rfl (lv_at hl 1 rfl) ?_
  obtain ⟨q1, hq1, h⟩ := ob h
  refine mc_i (ws' := wX5 a5 cI cZ q1.2) (wr := ([] : va_W)) [0, 1, 2, 3, 4, 5, 6, 7, 8, 9, 10, 11, 12, 13, 14, 15, 16, 17, 18, 19, 20, 21, 22] [] [0, 1, 2, 3, 4, 5, 6, 7, 8, 9, 10, 11, 12, 13, 14, 15, 16, 17, 18, 19, 20, 21, 22] (va_runV (As := [.int x1]) (rest := [.ref (a5 0)]) ⟨hx, hb, hml, hown, hts⟩ (c_X5_isTerm l D cI cZ a5 N σ x1 q1.1 q1.2 hq1 H.size) (cwV 1 hts gX5_measure_X5_isTerm rfl rfl rfl (by decide +kernel) ⟨Nat.le_of_ble_eq_true rfl, Nat.le_of_ble_eq_true rfl⟩) (pV [0, 1, 2, 3, 4, 5, 6, 7, 8, 9, 10, 11, 12, 13, 14, 15, 16, 17, 18, 19, 20, 21, 22] hP hD hK hN rfl rfl rfl rfl) rfl rfl hl.1 rfl (lv_room (Nat.le_of_ble_eq_true rfl)) dX5_measure_3 ⟨Nat.le_of_ble_eq_true rfl, Nat.le_of_ble_eq_true rfl⟩) hP hD hS hA rfl rfl rfl (by decide) rfl rfl (fun H locs hP hD hS => ?_)
  refine lv_if_ne (tgt := 13) hx hb dX5_measure_6 (by decide) (fun hc2 => ?_) (fun hc2 => ?_)
  · rw [if_neg hc2] at h
    refine lv_iload_n hx hb dX5_measure_13 rfl (lv_at hl 2 rfl) ?_
    refine lv_iconst (v := 2) hx hb dX5_measure_14 rfl ?_
    obtain ⟨q3, hq3, h⟩ := ob h
    refine mc_i (ws' := wX5 a5 cI cZ q1.2) (wr := ((wX5o a5 cI cZ q1.2) : va_W)) [] [0, 1, 2, 3, 4, 5, 6, 7, 8, 9, 10, 11, 12, 13, 14, 15, 16, 17, 18, 19, 20, 21, 22] [0, 1, 2, 3, 4, 5, 6, 7, 8, 9, 10, 11, 12, 13, 14, 15, 16, 17, 18, 19, 20, 21, 22] (va_runS (As := [.int x2, .int 2]) (rest := [.ref (a5 0)]) ⟨hx, hb, hml, hown, hts⟩ (c_X5_outside l D cI cZ N x2 2 q3.1 q3.2 hq3 H.size) (va_cwS 2 hts gX5_measure_X5_outside rfl rfl rfl (by decide +kernel) ⟨Nat.le_of_ble_eq_true rfl, Nat.le_of_ble_eq_true rfl⟩) (pS [] hP hD hK hN rfl rfl) rfl rfl hl.1 rfl (lv_room (Nat.le_of_ble_eq_true rfl)) dX5_measure_15 ⟨Nat.le_of_ble_eq_true rfl, Nat.le_of_ble_eq_true rfl⟩) hP hD hS hA rfl rfl rfl (by decide) rfl rfl (fun H locs hP hD hS => ?_)
    refine lv_if_eq (tgt := 25) hx hb dX5_measure_18 (by decide) (fun hc4 => ?_) (fun hc4 => ?_)
    · rw [if_pos hc4] at h
      refine lv_iconst (v := 0) hx hb dX5_measure_25 rfl ?_
      exact k_X5_measure_26 C0 N q1.2 x1 x2 0 _ _ _ hP hD hS (lv_sub hl [0, 1, 2] rfl) h
    · rw [if_neg hc4] at h
      refine lv_iconst (v := 2) hx hb dX5_measure_21 rfl ?_
      refine lv_goto (tgt := 26) hx hb dX5_measure_22 (by decide) ?_
      exact k_X5_measure_26 C0 N q1.2 x1 x2 2 _ _ _ hP hD hS (lv_sub hl [0, 1, 2] rfl) h
  · rw [if_pos hc2] at h
    refine lv_iconst (v := 1) hx hb dX5_measure_9 rfl ?_
    refine lv_goto (tgt := 26) hx hb dX5_measure_10 (by decide) ?_
    exact k_X5_measure_26 C0 N q1.2 x1 x2 1 _ _ _ hP hD hS (lv_sub hl [0, 1, 2] rfl) h

theorem in_X5_areAlike_X5 : ∀ w ∈ u_ws RX5 TX5 30, w ∈ wsX5_areAlike := by decide +kernel
def f_X5_areAlike_75 (N : Nat) (σ : St) (x4 : Int32) : Option (Int32 × St) := if x4 = 0 ∨ x4 = 1 then some (x4, σ) else none
def f_X5_areAlike_67 (N : Nat) (k6 : St → Int32 → Int32 → Int32 → Int32 → Int32 → Option (Int32 × St)) (σ : St) (x1 x2 x3 x5 s0 : Int32) : Option (Int32 × St) := k6 σ x1 x2 x3 s0 (x5 + 1)
def f_X5_areAlike_66 (N : Nat) (k6 : St → Int32 → Int32 → Int32 → Int32 → Int32 → Option (Int32 × St)) (σ : St) (x1 x2 x3 x5 : Int32) : Option (Int32 × St) := f_X5_areAlike_67 N k6 σ x1 x2 x3 x5 0
def f_X5_areAlike_6 (N : Nat) : Nat → St → Int32 → Int32 → Int32 → Int32 → Int32 → Option (Int32 × St)
  | 0, _, _, _, _, _, _ => none
  | n + 1, σ, x1, x2, x3, x4, x5 => if x3 ≤ x5 then f_X5_areAlike_75 N σ x4 else if x4 = 0 then f_X5_areAlike_75 N σ x4 else if (x1 + x5) < 0 ∨ 34100 ≤ ((x1 + x5)).toNatClampNeg then none else if (x2 + x5) < 0 ∨ 34100 ≤ ((x2 + x5)).toNatClampNeg then none else if (σ 20 ((x1 + x5)).toNatClampNeg) = (σ 20 ((x2 + x5)).toNatClampNeg) then if (x1 + x5) < 0 ∨ 34100 ≤ ((x1 + x5)).toNatClampNeg then none else if (x2 + x5) < 0 ∨ 34100 ≤ ((x2 + x5)).toNatClampNeg then none else (f_X5_areSameTypes N (σ 21 ((x1 + x5)).toNatClampNeg) (σ 21 ((x2 + x5)).toNatClampNeg)).bind (fun q4 => if q4.1 = 0 then f_X5_areAlike_66 N (f_X5_areAlike_6 N n) σ x1 x2 x3 x5 else f_X5_areAlike_67 N (f_X5_areAlike_6 N n) σ x1 x2 x3 x5 1) else f_X5_areAlike_66 N (f_X5_areAlike_6 N n) σ x1 x2 x3 x5
def f_X5_areAlike (N : Nat) (σ : St) (x1 x2 x3 : Int32) : Option (Int32 × St) := f_X5_areAlike_6 N N σ x1 x2 x3 1 0
abbrev KP_X5_areAlike_75 (p : Program) (l : Launch) (e : Env) (s : State) (m : MethodId) (args : Array Value) (below : List Frame) (meth : Method) (c : Code) (D : va_G) (cI cZ : ClassId) (a5 : Nat → Nat) (A : Nat → Prop) (r : Int32) (u1 : St) (K : St → Int32 → Option (Int32 × St)) : Prop := ∀ (σ : St) (x4 : Int32) (H : Heap) (locs : List Loc) (ls : Array Slot), va_P D vwCl (wX5 a5 cI cZ σ) H → va_D A (wX5 a5 cI cZ σ) → va_S A s.heap H locs → lv_has ls 6 [(4, .int x4)] → K σ x4 = some (r, u1) → W p l e ({ frames := 1, cells := 0, slots := 0, locals := 21 } : Room) s m args below meth c H locs 0 0 (QI below args s D cI cZ (wX5 a5 cI cZ) A r u1) (F0 m 75 ls [])
abbrev KP_X5_areAlike_67 (p : Program) (l : Launch) (e : Env) (s : State) (m : MethodId) (args : Array Value) (below : List Frame) (meth : Method) (c : Code) (D : va_G) (cI cZ : ClassId) (a5 : Nat → Nat) (A : Nat → Prop) (r : Int32) (u1 : St) (K : St → Int32 → Int32 → Int32 → Int32 → Int32 → Option (Int32 × St)) : Prop := ∀ (σ : St) (x1 x2 x3 x5 s0 : Int32) (H : Heap) (locs : List Loc) (ls : Array Slot), va_P D vwCl (wX5 a5 cI cZ σ) H → va_D A (wX5 a5 cI cZ σ) → va_S A s.heap H locs → lv_has ls 6 [(0, .ref (a5 0)), (1, .int x1), (2, .int x2), (3, .int x3), (5, .int x5)] → K σ x1 x2 x3 x5 s0 = some (r, u1) → W p l e ({ frames := 1, cells := 0, slots := 0, locals := 21 } : Room) s m args below meth c H locs 0 0 (QI below args s D cI cZ (wX5 a5 cI cZ) A r u1) (F0 m 67 ls [.int s0])
abbrev KP_X5_areAlike_66 (p : Program) (l : Launch) (e : Env) (s : State) (m : MethodId) (args : Array Value) (below : List Frame) (meth : Method) (c : Code) (D : va_G) (cI cZ : ClassId) (a5 : Nat → Nat) (A : Nat → Prop) (r : Int32) (u1 : St) (K : St → Int32 → Int32 → Int32 → Int32 → Option (Int32 × St)) : Prop := ∀ (σ : St) (x1 x2 x3 x5 : Int32) (H : Heap) (locs : List Loc) (ls : Array Slot), va_P D vwCl (wX5 a5 cI cZ σ) H → va_D A (wX5 a5 cI cZ σ) → va_S A s.heap H locs → lv_has ls 6 [(0, .ref (a5 0)), (1, .int x1), (2, .int x2), (3, .int x3), (5, .int x5)] → K σ x1 x2 x3 x5 = some (r, u1) → W p l e ({ frames := 1, cells := 0, slots := 0, locals := 21 } : Room) s m args below meth c H locs 0 0 (QI below args s D cI cZ (wX5 a5 cI cZ) A r u1) (F0 m 66 ls [])
abbrev KP_X5_areAlike_6 (p : Program) (l : Launch) (e : Env) (s : State) (m : MethodId) (args : Array Value) (below : List Frame) (meth : Method) (c : Code) (D : va_G) (cI cZ : ClassId) (a5 : Nat → Nat) (A : Nat → Prop) (r : Int32) (u1 : St) (K : St → Int32 → Int32 → Int32 → Int32 → Int32 → Option (Int32 × St)) : Prop := ∀ (σ : St) (x1 x2 x3 x4 x5 : Int32) (H : Heap) (locs : List Loc) (ls : Array Slot), va_P D vwCl (wX5 a5 cI cZ σ) H → va_D A (wX5 a5 cI cZ σ) → va_S A s.heap H locs → lv_has ls 6 [(0, .ref (a5 0)), (1, .int x1), (2, .int x2), (3, .int x3), (4, .int x4), (5, .int x5)] → K σ x1 x2 x3 x4 x5 = some (r, u1) → W p l e ({ frames := 1, cells := 0, slots := 0, locals := 21 } : Room) s m args below meth c H locs 0 0 (QI below args s D cI cZ (wX5 a5 cI cZ) A r u1) (F0 m 6 ls [])
set_option maxHeartbeats 4000000 in
set_option maxRecDepth 100000 in
theorem k_X5_areAlike_75 {p : Program} {l : Launch} {e : Env} {s : State} {m : MethodId} {args : Array Value} {below : List Frame} {meth : Method} {c : Code} {D : va_G} {cI cZ : ClassId} {a5 : Nat → Nat} {A : Nat → Prop} {r : Int32} {u1 : St} (C0 : mB p s m args meth c D cI cZ A cX5_areAlike 6 (some .boolean) wsX5_areAlike RX5) (N : Nat) : KP_X5_areAlike_75 p l e s m args below meth c D cI cZ a5 A r u1 (f_X5_areAlike_75 N) := by
  obtain ⟨hx, hb, hml, hr, hown, hts, hlocks, hA, hK, hN⟩ := id C0
  intro σ x4 H locs ls hP hD hS hl h
  unfold f_X5_areAlike_75 at h
  refine lv_iload hx hb dX5_areAlike_75 (lv_at hl 0 rfl) ?_
  by_cases hz : x4 = 0 ∨ x4 = 1
  · rw [if_pos hz] at h
    obtain ⟨rfl, rfl⟩ := so h
    exact ret_z C0 hz hP hD hS dX5_areAlike_77
  · rw [if_neg hz] at h; exact no h
set_option maxHeartbeats 4000000 in
set_option maxRecDepth 100000 in
theorem k_X5_areAlike_67 {p : Program} {l : Launch} {e : Env} {s : State} {m : MethodId} {args : Array Value} {below : List Frame} {meth : Method} {c : Code} {D : va_G} {cI cZ : ClassId} {a5 : Nat → Nat} {A : Nat → Prop} {r : Int32} {u1 : St} (C0 : mB p s m args meth c D cI cZ A cX5_areAlike 6 (some .boolean) wsX5_areAlike RX5) (N : Nat) (k6 : St → Int32 → Int32 → Int32 → Int32 → Int32 → Option (Int32 × St)) (hk6 : KP_X5_areAlike_6 p l e s m args below meth c D cI cZ a5 A r u1 k6) : KP_X5_areAlike_67 p l e s m args below meth c D cI cZ a5 A r u1 (f_X5_areAlike_67 N k6) := by
  obtain ⟨hx, hb, hml, hr, hown, hts, hlocks, hA, hK, hN⟩ := id C0
  intro σ x1 x2 x3 x5 s0 H locs ls hP hD hS hl h
  unfold f_X5_areAlike_67 at h
  refine lv_istore (lv' := [(4, .int s0), (0, .ref (a5 0)), (1, .int x1), (2, .int x2), (3, .int x3), (5, .int x5)]) hx hb dX5_areAlike_67 hl (by decide) rfl (fun ls hl => ?_)
  refine lv_iinc (v := (x5 + 1)) (lv' := [(5, .int (x5 + 1)), (4, .int s0), (0, .ref (a5 0)), (1, .int x1), (2, .int x2), (3, .int x3)]) hx hb dX5_areAlike_69 hl (k := 5) rfl rfl (by decide) rfl (fun ls hl => ?_)
  refine lv_goto (tgt := 6) hx hb dX5_areAlike_72 (by decide) ?_
  exact hk6 σ x1 x2 x3 s0 (x5 + 1) _ _ _ hP hD hS (lv_sub hl [2, 3, 4, 5, 1, 0] rfl) h
set_option maxHeartbeats 4000000 in
set_option maxRecDepth 100000 in
theorem k_X5_areAlike_66 {p : Program} {l : Launch} {e : Env} {s : State} {m : MethodId} {args : Array Value} {below : List Frame} {meth : Method} {c : Code} {D : va_G} {cI cZ : ClassId} {a5 : Nat → Nat} {A : Nat → Prop} {r : Int32} {u1 : St} (C0 : mB p s m args meth c D cI cZ A cX5_areAlike 6 (some .boolean) wsX5_areAlike RX5) (N : Nat) (k6 : St → Int32 → Int32 → Int32 → Int32 → Int32 → Option (Int32 × St)) (hk6 : KP_X5_areAlike_6 p l e s m args below meth c D cI cZ a5 A r u1 k6) : KP_X5_areAlike_66 p l e s m args below meth c D cI cZ a5 A r u1 (f_X5_areAlike_66 N k6) := by
  obtain ⟨hx, hb, hml, hr, hown, hts, hlocks, hA, hK, hN⟩ := id C0
  intro σ x1 x2 x3 x5 H locs ls hP hD hS hl h
  unfold f_X5_areAlike_66 at h
  refine lv_iconst (v := 0) hx hb dX5_areAlike_66 rfl ?_
  exact k_X5_areAlike_67 C0 N k6 hk6 σ x1 x2 x3 x5 0 _ _ _ hP hD hS (lv_sub hl [0, 1, 2, 3, 4] rfl) h
set_option maxHeartbeats 4000000 in
set_option maxRecDepth 100000 in
theorem k_X5_areAlike_6 {p : Program} {l : Launch} {e : Env} {s : State} {m : MethodId} {args : Array Value} {below : List Frame} {meth : Method} {c : Code} {D : va_G} {cI cZ : ClassId} {a5 : Nat → Nat} {A : Nat → Prop} {r : Int32} {u1 : St} (C0 : mB p s m args meth c D cI cZ A cX5_areAlike 6 (some .boolean) wsX5_areAlike RX5) (N : Nat) : ∀ n : Nat, KP_X5_areAlike_6 p l e s m args below meth c D cI cZ a5 A r u1 (f_X5_areAlike_6 N n) := by
  obtain ⟨hx, hb, hml, hr, hown, hts, hlocks, hA, hK, hN⟩ := id C0
  intro n
  induction n with
  | zero =>
    intro σ x1 x2 x3 x4 x5 H locs ls hP hD hS hl h
    exact no (show (none : Option (Int32 × St)) = _ from h)
  | succ n ih =>
    intro σ x1 x2 x3 x4 x5 H locs ls hP hD hS hl h
    rw [f_X5_areAlike_6] at h
    refine lv_iload hx hb dX5_areAlike_6 (lv_at hl 5 rfl) ?_
    refine lv_iload_n hx hb dX5_areAlike_8 rfl (lv_at hl 3 rfl) ?_
    refine lv_icmp_ge (tgt := 75) hx hb dX5_areAlike_9 (by decide) (fun hc1 => ?_) (fun hc1 => ?_)
    · rw [if_pos hc1] at h
      exact k_X5_areAlike_75 C0 N σ x4 _ _ _ hP hD hS (lv_sub hl [4] rfl) h
    · rw [if_neg hc1] at h
      refine lv_iload hx hb dX5_areAlike_12 (lv_at hl 4 rfl) ?_
      refine lv_if_eq (tgt := 75) hx hb dX5_areAlike_14 (by decide) (fun hc2 => ?_) (fun hc2 => ?_)
      · rw [if_pos hc2] at h
        exact k_X5_areAlike_75 C0 N σ x4 _ _ _ hP hD hS (lv_sub hl [4] rfl) h
      · rw [if_neg hc2] at h
        refine lv_aload_n hx hb dX5_areAlike_17 rfl (lv_at hl 0 rfl) ?_
        refine va_get (D := D) (ci := 5) (v := .ref (a5 21)) (C := RX5) (T := TX5) (N := 30) hx hb hts in_X5_areAlike_X5 hown hK hP 0 rfl rfl 20 (by decide) (hts (.fieldLink RX5 55 "TermLoomModel" "symbol" "[I") (by decide +kernel)) (fun _ h9 => h9) rfl dX5_areAlike_18 ?_
        refine lv_iload_n hx hb dX5_areAlike_21 rfl (lv_at hl 1 rfl) ?_
        refine lv_iload hx hb dX5_areAlike_22 (lv_at hl 5 rfl) ?_
        refine lv_iadd hx hb dX5_areAlike_24 ?_
        by_cases hi : (x1 + x5) < 0 ∨ 34100 ≤ ((x1 + x5)).toNatClampNeg
        · rw [if_pos hi] at h; exact no h
        rw [if_neg hi] at h
        refine va_iald (f := (σ 20)) hx hb hK hP 14 0 rfl rfl (i := (x1 + x5)) hi dX5_areAlike_25 ?_
        refine lv_aload_n hx hb dX5_areAlike_26 rfl (lv_at hl 0 rfl) ?_
        refine va_get (D := D) (ci := 5) (v := .ref (a5 21)) (C := RX5) (T := TX5) (N := 30) hx hb hts in_X5_areAlike_X5 hown hK hP 0 rfl rfl 20 (by decide) (hts (.fieldLink RX5 55 "TermLoomModel" "symbol" "[I") (by decide +kernel)) (fun _ h9 => h9) rfl dX5_areAlike_27 ?_
        refine lv_iload_n hx hb dX5_areAlike_30 rfl (lv_at hl 2 rfl) ?_
        refine lv_iload hx hb dX5_areAlike_31 (lv_at hl 5 rfl) ?_
        refine lv_iadd hx hb dX5_areAlike_33 ?_
        by_cases hi : (x2 + x5) < 0 ∨ 34100 ≤ ((x2 + x5)).toNatClampNeg
        · rw [if_pos hi] at h; exact no h
        rw [if_neg hi] at h
        refine va_iald (f := (σ 20)) hx hb hK hP 14 0 rfl rfl (i := (x2 + x5)) hi dX5_areAlike_34 ?_
        refine lv_icmp_ne (tgt := 66) hx hb dX5_areAlike_35 (by decide) (fun hc3 => ?_) (fun hc3 => ?_)
        · rw [if_neg hc3] at h
          exact k_X5_areAlike_66 C0 N (f_X5_areAlike_6 N n) ih σ x1 x2 x3 x5 _ _ _ hP hD hS (lv_sub hl [0, 1, 2, 3, 5] rfl) h
        · rw [if_pos hc3] at h
          refine lv_aload_n hx hb dX5_areAlike_38 rfl (lv_at hl 0 rfl) ?_
          refine va_get (D := D) (ci := 5) (v := .ref (a5 22)) (C := RX5) (T := TX5) (N := 30) hx hb hts in_X5_areAlike_X5 hown hK hP 0 rfl rfl 21 (by decide) (hts (.fieldLink RX5 58 "TermLoomModel" "type" "[I") (by decide +kernel)) (fun _ h9 => h9) rfl dX5_areAlike_39 ?_
          refine lv_iload_n hx hb dX5_areAlike_42 rfl (lv_at hl 1 rfl) ?_
          refine lv_iload hx hb dX5_areAlike_43 (lv_at hl 5 rfl) ?_
          refine lv_iadd hx hb dX5_areAlike_45 ?_
          by_cases hi : (x1 + x5) < 0 ∨ 34100 ≤ ((x1 + x5)).toNatClampNeg
          · rw [if_pos hi] at h; exact no h
          rw [if_neg hi] at h
          refine va_iald (f := (σ 21)) hx hb hK hP 15 0 rfl rfl (i := (x1 + x5)) hi dX5_areAlike_46 ?_
          refine lv_aload_n hx hb dX5_areAlike_47 rfl (lv_at hl 0 rfl) ?_
          refine va_get (D := D) (ci := 5) (v := .ref (a5 22)) (C := RX5) (T := TX5) (N := 30) hx hb hts in_X5_areAlike_X5 hown hK hP 0 rfl rfl 21 (by decide) (hts (.fieldLink RX5 58 "TermLoomModel" "type" "[I") (by decide +kernel)) (fun _ h9 => h9) rfl dX5_areAlike_48 ?_
          refine lv_iload_n hx hb dX5_areAlike_51 rfl (lv_at hl 2 rfl) ?_
          refine lv_iload hx hb dX5_areAlike_52 (lv_at hl 5 rfl) ?_
          refine lv_iadd hx hb dX5_areAlike_54 ?_
          by_cases hi : (x2 + x5) < 0 ∨ 34100 ≤ ((x2 + x5)).toNatClampNeg
          · rw [if_pos hi] at h; exact no h
          rw [if_neg hi] at h
          refine va_iald (f := (σ 21)) hx hb hK hP 15 0 rfl rfl (i := (x2 + x5)) hi dX5_areAlike_55 ?_
          obtain ⟨q4, hq4, h⟩ := ob h
          refine mc_i (ws' := wX5 a5 cI cZ σ) (wr := ((wX5o a5 cI cZ σ) : va_W)) [] [0, 1, 2, 3, 4, 5, 6, 7, 8, 9, 10, 11, 12, 13, 14, 15, 16, 17, 18, 19, 20, 21, 22] [0, 1, 2, 3, 4, 5, 6, 7, 8, 9, 10, 11, 12, 13, 14, 15, 16, 17, 18, 19, 20, 21, 22] (va_runS (As := [.int (σ 21 ((x1 + x5)).toNatClampNeg), .int (σ 21 ((x2 + x5)).toNatClampNeg)]) (rest := []) ⟨hx, hb, hml, hown, hts⟩ (c_X5_areSameTypes l D cI cZ N (σ 21 ((x1 + x5)).toNatClampNeg) (σ 21 ((x2 + x5)).toNatClampNeg) q4.1 q4.2 hq4 H.size) (va_cwS 2 hts gX5_areAlike_X5_areSameTypes rfl rfl rfl (by decide +kernel) ⟨Nat.le_of_ble_eq_true rfl, Nat.le_of_ble_eq_true rfl⟩) (pS [] hP hD hK hN rfl rfl) rfl rfl hl.1 rfl (lv_room (Nat.le_of_ble_eq_true rfl)) dX5_areAlike_56 ⟨Nat.le_of_ble_eq_true rfl, Nat.le_of_ble_eq_true rfl⟩) hP hD hS hA rfl rfl rfl (by decide) rfl rfl (fun H locs hP hD hS => ?_)
          refine lv_if_eq (tgt := 66) hx hb dX5_areAlike_59 (by decide) (fun hc5 => ?_) (fun hc5 => ?_)
          · rw [if_pos hc5] at h
            exact k_X5_areAlike_66 C0 N (f_X5_areAlike_6 N n) ih σ x1 x2 x3 x5 _ _ _ hP hD hS (lv_sub hl [0, 1, 2, 3, 5] rfl) h
          · rw [if_neg hc5] at h
            refine lv_iconst (v := 1) hx hb dX5_areAlike_62 rfl ?_
            refine lv_goto (tgt := 67) hx hb dX5_areAlike_63 (by decide) ?_
            exact k_X5_areAlike_67 C0 N (f_X5_areAlike_6 N n) ih σ x1 x2 x3 x5 1 _ _ _ hP hD hS (lv_sub hl [0, 1, 2, 3, 5] rfl) h
set_option maxHeartbeats 4000000 in
set_option maxRecDepth 100000 in
theorem c_X5_areAlike (l : Launch) (D : va_G) (cI cZ : ClassId) (a5 : Nat → Nat) (N : Nat) (σ : St) (x1 x2 x3 : Int32) : MI l yX5_areAlike wsX5_areAlike ({ frames := 1, cells := 0, slots := 0, locals := 21 } : Room) D cI cZ (wX5 a5 cI cZ) [.ref (a5 0), .int x1, .int x2, .int x3] σ (f_X5_areAlike N σ x1 x2 x3) := by
  refine MI.of (cc := cX5_areAlike) (maxL := 6) (ret := (some .boolean)) (own := RX5) (by decide) rfl rfl (Nat.le_of_ble_eq_true rfl) ?_
  intro r u1 h p e s m args below meth c A C0 H locs ls hP hD hS hl
  obtain ⟨hx, hb, hml, hr, hown, hts, hlocks, hA, hK, hN⟩ := id C0
  have hl : lv_has ls 6 [(0, .ref (a5 0)), (1, .int x1), (2, .int x2), (3, .int x3)] := hl
  unfold f_X5_areAlike at h
  refine lv_iconst (v := 1) hx hb dX5_areAlike_0 rfl ?_
  refine lv_istore (lv' := [(4, .int 1), (0, .ref (a5 0)), (1, .int x1), (2, .int x2), (3, .int x3)]) hx hb dX5_areAlike_1 hl (by decide) rfl (fun ls hl => ?_)
  refine lv_iconst (v := 0) hx hb dX5_areAlike_3 rfl ?_
  refine lv_istore (lv' := [(5, .int 0), (4, .int 1), (0, .ref (a5 0)), (1, .int x1), (2, .int x2), (3, .int x3)]) hx hb dX5_areAlike_4 hl (by decide) rfl (fun ls hl => ?_)
  exact k_X5_areAlike_6 C0 N N σ x1 x2 x3 1 0 _ _ _ hP hD hS (lv_sub hl [2, 3, 4, 5, 1, 0] rfl) h

theorem in_X5_same_X5 : ∀ w ∈ u_ws RX5 TX5 30, w ∈ wsX5_same := by decide +kernel
def f_X5_same_74 (N : Nat) (σ : St) (s0 : Int32) : Option (Int32 × St) := if s0 = 0 ∨ s0 = 1 then some (s0, σ) else none
def f_X5_same_73 (N : Nat) (σ : St) : Option (Int32 × St) := f_X5_same_74 N σ 0
def f_X5_same_22 (N : Nat) (σ : St) (x1 x2 s1 : Int32) : Option (Int32 × St) := bnd (up2 σ 0 0 s1) (fun σ1 => if (σ1 0 0) = 0 then (f_X5_lengthOf N σ1 x1).bind (fun q3 => (f_X5_lengthOf N q3.2 x2).bind (fun q4 => if q3.1 = q4.1 then if x1 < 0 ∨ 4201 ≤ (x1).toNatClampNeg then none else if x2 < 0 ∨ 4201 ≤ (x2).toNatClampNeg then none else (f_X5_lengthOf N q4.2 x1).bind (fun q6 => (f_X5_areAlike N q6.2 (q4.2 19 (x1).toNatClampNeg) (q4.2 19 (x2).toNatClampNeg) q6.1).bind (fun q7 => if q7.1 = 0 then f_X5_same_73 N q7.2 else f_X5_same_74 N q7.2 1)) else f_X5_same_73 N q4.2)) else f_X5_same_73 N σ1)
def f_X5_same_21 (N : Nat) (σ : St) (x1 x2 : Int32) : Option (Int32 × St) := f_X5_same_22 N σ x1 x2 1
def f_X5_same (N : Nat) (σ : St) (x1 x2 : Int32) : Option (Int32 × St) := (f_X5_isTerm N σ x1).bind (fun q1 => if q1.1 = 0 then f_X5_same_21 N q1.2 x1 x2 else (f_X5_isTerm N q1.2 x2).bind (fun q3 => if q3.1 = 0 then f_X5_same_21 N q3.2 x1 x2 else f_X5_same_22 N q3.2 x1 x2 0))
abbrev KP_X5_same_74 (p : Program) (l : Launch) (e : Env) (s : State) (m : MethodId) (args : Array Value) (below : List Frame) (meth : Method) (c : Code) (D : va_G) (cI cZ : ClassId) (a5 : Nat → Nat) (A : Nat → Prop) (r : Int32) (u1 : St) (K : St → Int32 → Option (Int32 × St)) : Prop := ∀ (σ : St) (s0 : Int32) (H : Heap) (locs : List Loc) (ls : Array Slot), va_P D vwCl (wX5 a5 cI cZ σ) H → va_D A (wX5 a5 cI cZ σ) → va_S A s.heap H locs → lv_has ls 3 [] → K σ s0 = some (r, u1) → W p l e ({ frames := 2, cells := 0, slots := 0, locals := 46 } : Room) s m args below meth c H locs 0 0 (QI below args s D cI cZ (wX5 a5 cI cZ) A r u1) (F0 m 74 ls [.int s0])
abbrev KP_X5_same_73 (p : Program) (l : Launch) (e : Env) (s : State) (m : MethodId) (args : Array Value) (below : List Frame) (meth : Method) (c : Code) (D : va_G) (cI cZ : ClassId) (a5 : Nat → Nat) (A : Nat → Prop) (r : Int32) (u1 : St) (K : St → Option (Int32 × St)) : Prop := ∀ (σ : St) (H : Heap) (locs : List Loc) (ls : Array Slot), va_P D vwCl (wX5 a5 cI cZ σ) H → va_D A (wX5 a5 cI cZ σ) → va_S A s.heap H locs → lv_has ls 3 [] → K σ = some (r, u1) → W p l e ({ frames := 2, cells := 0, slots := 0, locals := 46 } : Room) s m args below meth c H locs 0 0 (QI below args s D cI cZ (wX5 a5 cI cZ) A r u1) (F0 m 73 ls [])
abbrev KP_X5_same_22 (p : Program) (l : Launch) (e : Env) (s : State) (m : MethodId) (args : Array Value) (below : List Frame) (meth : Method) (c : Code) (D : va_G) (cI cZ : ClassId) (a5 : Nat → Nat) (A : Nat → Prop) (r : Int32) (u1 : St) (K : St → Int32 → Int32 → Int32 → Option (Int32 × St)) : Prop := ∀ (σ : St) (x1 x2 s1 : Int32) (H : Heap) (locs : List Loc) (ls : Array Slot), va_P D vwCl (wX5 a5 cI cZ σ) H → va_D A (wX5 a5 cI cZ σ) → va_S A s.heap H locs → lv_has ls 3 [(0, .ref (a5 0)), (1, .int x1), (2, .int x2)] → K σ x1 x2 s1 = some (r, u1) → W p l e ({ frames := 2, cells := 0, slots := 0, locals := 46 } : Room) s m args below meth c H locs 0 0 (QI below args s D cI cZ (wX5 a5 cI cZ) A r u1) (F0 m 22 ls [.int s1, .ref (a5 0)])
abbrev KP_X5_same_21 (p : Program) (l : Launch) (e : Env) (s : State) (m : MethodId) (args : Array Value) (below : List Frame) (meth : Method) (c : Code) (D : va_G) (cI cZ : ClassId) (a5 : Nat → Nat) (A : Nat → Prop) (r : Int32) (u1 : St) (K : St → Int32 → Int32 → Option (Int32 × St)) : Prop := ∀ (σ : St) (x1 x2 : Int32) (H : Heap) (locs : List Loc) (ls : Array Slot), va_P D vwCl (wX5 a5 cI cZ σ) H → va_D A (wX5 a5 cI cZ σ) → va_S A s.heap H locs → lv_has ls 3 [(0, .ref (a5 0)), (1, .int x1), (2, .int x2)] → K σ x1 x2 = some (r, u1) → W p l e ({ frames := 2, cells := 0, slots := 0, locals := 46 } : Room) s m args below meth c H locs 0 0 (QI below args s D cI cZ (wX5 a5 cI cZ) A r u1) (F0 m 21 ls [.ref (a5 0)])
set_option maxHeartbeats 4000000 in
set_option maxRecDepth 100000 in
theorem k_X5_same_74 {p : Program} {l : Launch} {e : Env} {s : State} {m : MethodId} {args : Array Value} {below : List Frame} {meth : Method} {c : Code} {D : va_G} {cI cZ : ClassId} {a5 : Nat → Nat} {A : Nat → Prop} {r : Int32} {u1 : St} (C0 : mB p s m args meth c D cI cZ A cX5_same 3 (some .boolean) wsX5_same RX5) (N : Nat) : KP_X5_same_74 p l e s m args below meth c D cI cZ a5 A r u1 (f_X5_same_74 N) := by
  obtain ⟨hx, hb, hml, hr, hown, hts, hlocks, hA, hK, hN⟩ := id C0
  intro σ s0 H locs ls hP hD hS hl h
  unfold f_X5_same_74 at h
  by_cases hz : s0 = 0 ∨ s0 = 1
  · rw [if_pos hz] at h
    obtain ⟨rfl, rfl⟩ := so h
    exact ret_z C0 hz hP hD hS dX5_same_74
  · rw [if_neg hz] at h; exact no h
set_option maxHeartbeats 4000000 in
set_option maxRecDepth 100000 in
theorem k_X5_same_73 {p : Program} {l : Launch} {e : Env} {s : State} {m : MethodId} {args : Array Value} {below : List Frame} {meth : Method} {c : Code} {D : va_G} {cI cZ : ClassId} {a5 : Nat → Nat} {A : Nat → Prop} {r : Int32} {u1 : St} (C0 : mB p s m args meth c D cI cZ A cX5_same 3 (some .boolean) wsX5_same RX5) (N : Nat) : KP_X5_same_73 p l e s m args below meth c D cI cZ a5 A r u1 (f_X5_same_73 N) := by
  obtain ⟨hx, hb, hml, hr, hown, hts, hlocks, hA, hK, hN⟩ := id C0
  intro σ H locs ls hP hD hS hl h
  unfold f_X5_same_73 at h
  refine lv_iconst (v := 0) hx hb dX5_same_73 rfl ?_
  exact k_X5_same_74 C0 N σ 0 _ _ _ hP hD hS (lv_sub hl [] rfl) h
set_option maxHeartbeats 4000000 in
set_option maxRecDepth 100000 in
theorem k_X5_same_22 {p : Program} {l : Launch} {e : Env} {s : State} {m : MethodId} {args : Array Value} {below : List Frame} {meth : Method} {c : Code} {D : va_G} {cI cZ : ClassId} {a5 : Nat → Nat} {A : Nat → Prop} {r : Int32} {u1 : St} (C0 : mB p s m args meth c D cI cZ A cX5_same 3 (some .boolean) wsX5_same RX5) (N : Nat) : KP_X5_same_22 p l e s m args below meth c D cI cZ a5 A r u1 (f_X5_same_22 N) := by
  obtain ⟨hx, hb, hml, hr, hown, hts, hlocks, hA, hK, hN⟩ := id C0
  intro σ x1 x2 s1 H locs ls hP hD hS hl h
  unfold f_X5_same_22 at h
  refine va_put (D := D) (ci := 5) (v := .int s1) (ty := .int) (C := RX5) (T := TX5) (N := 30) hx hb hts in_X5_same_X5 tyX5 tyX5_ok nmX5 hown hK hP hD hS 0 rfl rfl 0 (by decide) (hts (.fieldLink RX5 85 "TermLoomModel" "code" "I") (by decide +kernel)) (fun _ h9 => h9) rfl (by decide +kernel) rfl rfl (Nat.le_of_ble_eq_true rfl) dX5_same_22 (fun H locs hP hD hS => ?_)
  obtain ⟨σ1, eσ1, h⟩ := bn h
  have hP : va_P D vwCl (wX5 a5 cI cZ σ1) H := by rw [eσ1]; exact hP
  have hD : va_D A (wX5 a5 cI cZ σ1) := by rw [eσ1]; exact hD
  refine lv_aload_n hx hb dX5_same_25 rfl (lv_at hl 0 rfl) ?_
  refine va_get (D := D) (ci := 5) (v := .int (σ1 0 0)) (C := RX5) (T := TX5) (N := 30) hx hb hts in_X5_same_X5 hown hK hP 0 rfl rfl 0 (by decide) (hts (.fieldLink RX5 85 "TermLoomModel" "code" "I") (by decide +kernel)) (fun _ h9 => h9) rfl dX5_same_26 ?_
  refine lv_if_ne (tgt := 73) hx hb dX5_same_29 (by decide) (fun hc2 => ?_) (fun hc2 => ?_)
  · rw [if_neg hc2] at h
    exact k_X5_same_73 C0 N σ1 _ _ _ hP hD hS (lv_sub hl [] rfl) h
  · rw [if_pos hc2] at h
    refine lv_aload_n hx hb dX5_same_32 rfl (lv_at hl 0 rfl) ?_
    refine lv_iload_n hx hb dX5_same_33 rfl (lv_at hl 1 rfl) ?_
    obtain ⟨q3, hq3, h⟩ := ob h
    refine mc_i (ws' := wX5 a5 cI cZ q3.2) (wr := ([] : va_W)) [0, 1, 2, 3, 4, 5, 6, 7, 8, 9, 10, 11, 12, 13, 14, 15, 16, 17, 18, 19, 20, 21, 22] [] [0, 1, 2, 3, 4, 5, 6, 7, 8, 9, 10, 11, 12, 13, 14, 15, 16, 17, 18, 19, 20, 21, 22] (va_runV (As := [.int x1]) (rest := []) ⟨hx, hb, hml, hown, hts⟩ (c_X5_lengthOf l D cI cZ a5 N σ1 x1 q3.1 q3.2 hq3 H.size) (cwV 1 hts gX5_same_X5_lengthOf rfl rfl rfl (by decide +kernel) ⟨Nat.le_of_ble_eq_true rfl, Nat.le_of_ble_eq_true rfl⟩) (pV [0, 1, 2, 3, 4, 5, 6, 7, 8, 9, 10, 11, 12, 13, 14, 15, 16, 17, 18, 19, 20, 21, 22] hP hD hK hN rfl rfl rfl rfl) rfl rfl hl.1 rfl (lv_room (Nat.le_of_ble_eq_true rfl)) dX5_same_34 ⟨Nat.le_of_ble_eq_true rfl, Nat.le_of_ble_eq_true rfl⟩) hP hD hS hA rfl rfl rfl (by decide) rfl rfl (fun H locs hP hD hS => ?_)
    refine lv_aload_n hx hb dX5_same_37 rfl (lv_at hl 0 rfl) ?_
    refine lv_iload_n hx hb dX5_same_38 rfl (lv_at hl 2 rfl) ?_
    obtain ⟨q4, hq4, h⟩ := ob h
    refine mc_i (ws' := wX5 a5 cI cZ q4.2) (wr := ([] : va_W)) [0, 1, 2, 3, 4, 5, 6, 7, 8, 9, 10, 11, 12, 13, 14, 15, 16, 17, 18, 19, 20, 21, 22] [] [0, 1, 2, 3, 4, 5, 6, 7, 8, 9, 10, 11, 12, 13, 14, 15, 16, 17, 18, 19, 20, 21, 22] (va_runV (As := [.int x2]) (rest := [.int q3.1]) ⟨hx, hb, hml, hown, hts⟩ (c_X5_lengthOf l D cI cZ a5 N q3.2 x2 q4.1 q4.2 hq4 H.size) (cwV 1 hts gX5_same_X5_lengthOf rfl rfl rfl (by decide +kernel) ⟨Nat.le_of_ble_eq_true rfl, Nat.le_of_ble_eq_true rfl⟩) (pV [0, 1, 2, 3, 4, 5, 6, 7, 8, 9, 10, 11, 12, 13, 14, 15, 16, 17, 18, 19, 20, 21, 22] hP hD hK hN rfl rfl rfl rfl) rfl rfl hl.1 rfl (lv_room (Nat.le_of_ble_eq_true rfl)) dX5_same_39 ⟨Nat.le_of_ble_eq_true rfl, Nat.le_of_ble_eq_true rfl⟩) hP hD hS hA rfl rfl rfl (by decide) rfl rfl (fun H locs hP hD hS => ?_)
    refine lv_icmp_ne (tgt := 73) hx hb dX5_same_42 (by decide) (fun hc5 => ?_) (fun hc5 => ?_)
    · rw [if_neg hc5] at h
      exact k_X5_same_73 C0 N q4.2 _ _ _ hP hD hS (lv_sub hl [] rfl) h
    · rw [if_pos hc5] at h
      refine lv_aload_n hx hb dX5_same_45 rfl (lv_at hl 0 rfl) ?_
      refine lv_aload_n hx hb dX5_same_46 rfl (lv_at hl 0 rfl) ?_
      refine va_get (D := D) (ci := 5) (v := .ref (a5 20)) (C := RX5) (T := TX5) (N := 30) hx hb hts in_X5_same_X5 hown hK hP 0 rfl rfl 19 (by decide) (hts (.fieldLink RX5 51 "TermLoomModel" "begin" "[I") (by decide +kernel)) (fun _ h9 => h9) rfl dX5_same_47 ?_
      refine lv_iload_n hx hb dX5_same_50 rfl (lv_at hl 1 rfl) ?_
      by_cases hi : x1 < 0 ∨ 4201 ≤ (x1).toNatClampNeg
      · rw [if_pos hi] at h; exact no h
      rw [if_neg hi] at h
      refine va_iald (f := (q4.2 19)) hx hb hK hP 13 0 rfl rfl (i := x1) hi dX5_same_51 ?_
      refine lv_aload_n hx hb dX5_same_52 rfl (lv_at hl 0 rfl) ?_
      refine va_get (D := D) (ci := 5) (v := .ref (a5 20)) (C := RX5) (T := TX5) (N := 30) hx hb hts in_X5_same_X5 hown hK hP 0 rfl rfl 19 (by decide) (hts (.fieldLink RX5 51 "TermLoomModel" "begin" "[I") (by decide +kernel)) (fun _ h9 => h9) rfl dX5_same_53 ?_
      refine lv_iload_n hx hb dX5_same_56 rfl (lv_at hl 2 rfl) ?_
      by_cases hi : x2 < 0 ∨ 4201 ≤ (x2).toNatClampNeg
      · rw [if_pos hi] at h; exact no h
      rw [if_neg hi] at h
      refine va_iald (f := (q4.2 19)) hx hb hK hP 13 0 rfl rfl (i := x2) hi dX5_same_57 ?_
      refine lv_aload_n hx hb dX5_same_58 rfl (lv_at hl 0 rfl) ?_
      refine lv_iload_n hx hb dX5_same_59 rfl (lv_at hl 1 rfl) ?_
      obtain ⟨q6, hq6, h⟩ := ob h
      refine mc_i (ws' := wX5 a5 cI cZ q6.2) (wr := ([] : va_W)) [0, 1, 2, 3, 4, 5, 6, 7, 8, 9, 10, 11, 12, 13, 14, 15, 16, 17, 18, 19, 20, 21, 22] [] [0, 1, 2, 3, 4, 5, 6, 7, 8, 9, 10, 11, 12, 13, 14, 15, 16, 17, 18, 19, 20, 21, 22] (va_runV (As := [.int x1]) (rest := [.int (q4.2 19 (x2).toNatClampNeg), .int (q4.2 19 (x1).toNatClampNeg), .ref (a5 0)]) ⟨hx, hb, hml, hown, hts⟩ (c_X5_lengthOf l D cI cZ a5 N q4.2 x1 q6.1 q6.2 hq6 H.size) (cwV 1 hts gX5_same_X5_lengthOf rfl rfl rfl (by decide +kernel) ⟨Nat.le_of_ble_eq_true rfl, Nat.le_of_ble_eq_true rfl⟩) (pV [0, 1, 2, 3, 4, 5, 6, 7, 8, 9, 10, 11, 12, 13, 14, 15, 16, 17, 18, 19, 20, 21, 22] hP hD hK hN rfl rfl rfl rfl) rfl rfl hl.1 rfl (lv_room (Nat.le_of_ble_eq_true rfl)) dX5_same_60 ⟨Nat.le_of_ble_eq_true rfl, Nat.le_of_ble_eq_true rfl⟩) hP hD hS hA rfl rfl rfl (by decide) rfl rfl (fun H locs hP hD hS => ?_)
      obtain ⟨q7, hq7, h⟩ := ob h
      refine mc_i (ws' := wX5 a5 cI cZ q7.2) (wr := ([] : va_W)) [0, 1, 2, 3, 4, 5, 6, 7, 8, 9, 10, 11, 12, 13, 14, 15, 16, 17, 18, 19, 20, 21, 22] [] [0, 1, 2, 3, 4, 5, 6, 7, 8, 9, 10, 11, 12, 13, 14, 15, 16, 17, 18, 19, 20, 21, 22] (va_runV (As := [.int (q4.2 19 (x1).toNatClampNeg), .int (q4.2 19 (x2).toNatClampNeg), .int q6.1]) (rest := []) ⟨hx, hb, hml, hown, hts⟩ (c_X5_areAlike l D cI cZ a5 N q6.2 (q4.2 19 (x1).toNatClampNeg) (q4.2 19 (x2).toNatClampNeg) q6.1 q7.1 q7.2 hq7 H.size) (cwV 3 hts gX5_same_X5_areAlike rfl rfl rfl (by decide +kernel) ⟨Nat.le_of_ble_eq_true rfl, Nat.le_of_ble_eq_true rfl⟩) (pV [0, 1, 2, 3, 4, 5, 6, 7, 8, 9, 10, 11, 12, 13, 14, 15, 16, 17, 18, 19, 20, 21, 22] hP hD hK hN rfl rfl rfl rfl) rfl rfl hl.1 rfl (lv_room (Nat.le_of_ble_eq_true rfl)) dX5_same_63 ⟨Nat.le_of_ble_eq_true rfl, Nat.le_of_ble_eq_true rfl⟩) hP hD hS hA rfl rfl rfl (by decide) rfl rfl (fun H locs hP hD hS => ?_)
      refine lv_if_eq (tgt := 73) hx hb dX5_same_66 (by decide) (fun hc8 => ?_) (fun hc8 => ?_)
      · rw [if_pos hc8] at h
        exact k_X5_same_73 C0 N q7.2 _ _ _ hP hD hS (lv_sub hl [] rfl) h
      · rw [if_neg hc8] at h
        refine lv_iconst (v := 1) hx hb dX5_same_69 rfl ?_
        refine lv_goto (tgt := 74) hx hb dX5_same_70 (by decide) ?_
        exact k_X5_same_74 C0 N q7.2 1 _ _ _ hP hD hS (lv_sub hl [] rfl) h
set_option maxHeartbeats 4000000 in
set_option maxRecDepth 100000 in
theorem k_X5_same_21 {p : Program} {l : Launch} {e : Env} {s : State} {m : MethodId} {args : Array Value} {below : List Frame} {meth : Method} {c : Code} {D : va_G} {cI cZ : ClassId} {a5 : Nat → Nat} {A : Nat → Prop} {r : Int32} {u1 : St} (C0 : mB p s m args meth c D cI cZ A cX5_same 3 (some .boolean) wsX5_same RX5) (N : Nat) : KP_X5_same_21 p l e s m args below meth c D cI cZ a5 A r u1 (f_X5_same_21 N) := by
  obtain ⟨hx, hb, hml, hr, hown, hts, hlocks, hA, hK, hN⟩ := id C0
  intro σ x1 x2 H locs ls hP hD hS hl h
  unfold f_X5_same_21 at h
  refine lv_iconst (v := 1) hx hb dX5_same_21 rfl ?_
  exact k_X5_same_22 C0 N σ x1 x2 1 _ _ _ hP hD hS (lv_sub hl [0, 1, 2] rfl) h
set_option maxHeartbeats 4000000 in
set_option maxRecDepth 100000 in
theorem c_X5_same (l : Launch) (D : va_G) (cI cZ : ClassId) (a5 : Nat → Nat) (N : Nat) (σ : St) (x1 x2 : Int32) : MI l yX5_same wsX5_same ({ frames := 2, cells := 0, slots := 0, locals := 46 } : Room) D cI cZ (wX5 a5 cI cZ) [.ref (a5 0), .int x1, .int x2] σ (f_X5_same N σ x1 x2) := by
  refine MI.of (cc := cX5_same) (maxL := 3) (ret := (some .boolean)) (own := RX5) (by decide) rfl rfl (Nat.le_of_ble_eq_true rfl) ?_
  intro r u1 h p e s m args below meth c A C0 H locs ls hP hD hS hl
  obtain ⟨hx, hb, hml, hr, hown, hts, hlocks, hA, hK, hN⟩ := id C0
  have hl : lv_has ls 3 [(0, .ref (a5 0)), (1, .int x1), (2, .int x2)] := hl
  unfold f_X5_same at h
  refine lv_aload_n hx hb dX5_same_0 rfl (lv_at hl 0 rfl) ?_
  refine lv_aload_n hx hb dX5_same_1 rfl (lv_at hl 0 rfl) ?_
  refine lv_iload_n hx hb dX5_same_2 rfl (lv_at hl 1 rfl) ?_
  obtain ⟨q1, hq1, h⟩ := ob h
  refine mc_i (ws' := wX5 a5 cI cZ q1.2) (wr := ([] : va_W)) [0, 1, 2, 3, 4, 5, 6, 7, 8, 9, 10, 11, 12, 13, 14, 15, 16, 17, 18, 19, 20, 21, 22] [] [0, 1, 2, 3, 4, 5, 6, 7, 8, 9, 10, 11, 12, 13, 14, 15, 16, 17, 18, 19, 20, 21, 22] (va_runV (As := [.int x1]) (rest := [.ref (a5 0)]) ⟨hx, hb, hml, hown, hts⟩ (c_X5_isTerm l D cI cZ a5 N σ x1 q1.1 q1.2 hq1 H.size) (cwV 1 hts gX5_same_X5_isTerm rfl rfl rfl (by decide +kernel) ⟨Nat.le_of_ble_eq_true rfl, Nat.le_of_ble_eq_true rfl⟩) (pV [0, 1, 2, 3, 4, 5, 6, 7, 8, 9, 10, 11, 12, 13, 14, 15, 16, 17, 18, 19, 20, 21, 22] hP hD hK hN rfl rfl rfl rfl) rfl rfl hl.1 rfl (lv_room (Nat.le_of_ble_eq_true rfl)) dX5_same_3 ⟨Nat.le_of_ble_eq_true rfl, Nat.le_of_ble_eq_true rfl⟩) hP hD hS hA rfl rfl rfl (by decide) rfl rfl (fun H locs hP hD hS => ?_)
  refine lv_if_eq (tgt := 21) hx hb dX5_same_6 (by decide) (fun hc2 => ?_) (fun hc2 => ?_)
  · rw [if_pos hc2] at h
    exact k_X5_same_21 C0 N q1.2 x1 x2 _ _ _ hP hD hS (lv_sub hl [0, 1, 2] rfl) h
  · rw [if_neg hc2] at h
    refine lv_aload_n hx hb dX5_same_9 rfl (lv_at hl 0 rfl) ?_
    refine lv_iload_n hx hb dX5_same_10 rfl (lv_at hl 2 rfl) ?_
    obtain ⟨q3, hq3, h⟩ := ob h
    refine mc_i (ws' := wX5 a5 cI cZ q3.2) (wr := ([] : va_W)) [0, 1, 2, 3, 4, 5, 6, 7, 8, 9, 10, 11, 12, 13, 14, 15, 16, 17, 18, 19, 20, 21, 22] [] [0, 1, 2, 3, 4, 5, 6, 7, 8, 9, 10, 11, 12, 13, 14, 15, 16, 17, 18, 19, 20, 21, 22] (va_runV (As := [.int x2]) (rest := [.ref (a5 0)]) ⟨hx, hb, hml, hown, hts⟩ (c_X5_isTerm l D cI cZ a5 N q1.2 x2 q3.1 q3.2 hq3 H.size) (cwV 1 hts gX5_same_X5_isTerm rfl rfl rfl (by decide +kernel) ⟨Nat.le_of_ble_eq_true rfl, Nat.le_of_ble_eq_true rfl⟩) (pV [0, 1, 2, 3, 4, 5, 6, 7, 8, 9, 10, 11, 12, 13, 14, 15, 16, 17, 18, 19, 20, 21, 22] hP hD hK hN rfl rfl rfl rfl) rfl rfl hl.1 rfl (lv_room (Nat.le_of_ble_eq_true rfl)) dX5_same_11 ⟨Nat.le_of_ble_eq_true rfl, Nat.le_of_ble_eq_true rfl⟩) hP hD hS hA rfl rfl rfl (by decide) rfl rfl (fun H locs hP hD hS => ?_)
    refine lv_if_eq (tgt := 21) hx hb dX5_same_14 (by decide) (fun hc4 => ?_) (fun hc4 => ?_)
    · rw [if_pos hc4] at h
      exact k_X5_same_21 C0 N q3.2 x1 x2 _ _ _ hP hD hS (lv_sub hl [0, 1, 2] rfl) h
    · rw [if_neg hc4] at h
      refine lv_iconst (v := 0) hx hb dX5_same_17 rfl ?_
      refine lv_goto (tgt := 22) hx hb dX5_same_18 (by decide) ?_
      exact k_X5_same_22 C0 N q3.2 x1 x2 0 _ _ _ hP hD hS (lv_sub hl [0, 1, 2] rfl) h

theorem in_X5_sameType_X5 : ∀ w ∈ u_ws RX5 TX5 30, w ∈ wsX5_sameType := by decide +kernel
def f_X5_sameType_61 (N : Nat) (σ : St) (s0 : Int32) : Option (Int32 × St) := if s0 = 0 ∨ s0 = 1 then some (s0, σ) else none
def f_X5_sameType_60 (N : Nat) (σ : St) : Option (Int32 × St) := f_X5_sameType_61 N σ 0
def f_X5_sameType_28 (N : Nat) (σ : St) (x1 x2 s1 : Int32) : Option (Int32 × St) := bnd (up2 σ 0 0 s1) (fun σ1 => if (σ1 0 0) = 0 then if x1 < 0 ∨ 4200 ≤ (x1).toNatClampNeg then none else if x2 < 0 ∨ 4200 ≤ (x2).toNatClampNeg then none else (f_X5_areSameTypes N (σ1 15 (x1).toNatClampNeg) (σ1 15 (x2).toNatClampNeg)).bind (fun q3 => if q3.1 = 0 then f_X5_sameType_60 N σ1 else f_X5_sameType_61 N σ1 1) else f_X5_sameType_60 N σ1)
def f_X5_sameType_23 (N : Nat) (σ : St) (x1 x2 : Int32) : Option (Int32 × St) := f_X5_sameType_28 N σ x1 x2 1
def f_X5_sameType (N : Nat) (σ : St) (x1 x2 : Int32) : Option (Int32 × St) := (f_X5_outside N x1 (σ 13 0)).bind (fun q1 => if q1.1 = 0 then (f_X5_outside N x2 (σ 13 0)).bind (fun q3 => if q3.1 = 0 then f_X5_sameType_28 N σ x1 x2 0 else f_X5_sameType_23 N σ x1 x2) else f_X5_sameType_23 N σ x1 x2)
abbrev KP_X5_sameType_61 (p : Program) (l : Launch) (e : Env) (s : State) (m : MethodId) (args : Array Value) (below : List Frame) (meth : Method) (c : Code) (D : va_G) (cI cZ : ClassId) (a5 : Nat → Nat) (A : Nat → Prop) (r : Int32) (u1 : St) (K : St → Int32 → Option (Int32 × St)) : Prop := ∀ (σ : St) (s0 : Int32) (H : Heap) (locs : List Loc) (ls : Array Slot), va_P D vwCl (wX5 a5 cI cZ σ) H → va_D A (wX5 a5 cI cZ σ) → va_S A s.heap H locs → lv_has ls 3 [] → K σ s0 = some (r, u1) → W p l e ({ frames := 1, cells := 0, slots := 0, locals := 21 } : Room) s m args below meth c H locs 0 0 (QI below args s D cI cZ (wX5 a5 cI cZ) A r u1) (F0 m 61 ls [.int s0])
abbrev KP_X5_sameType_60 (p : Program) (l : Launch) (e : Env) (s : State) (m : MethodId) (args : Array Value) (below : List Frame) (meth : Method) (c : Code) (D : va_G) (cI cZ : ClassId) (a5 : Nat → Nat) (A : Nat → Prop) (r : Int32) (u1 : St) (K : St → Option (Int32 × St)) : Prop := ∀ (σ : St) (H : Heap) (locs : List Loc) (ls : Array Slot), va_P D vwCl (wX5 a5 cI cZ σ) H → va_D A (wX5 a5 cI cZ σ) → va_S A s.heap H locs → lv_has ls 3 [] → K σ = some (r, u1) → W p l e ({ frames := 1, cells := 0, slots := 0, locals := 21 } : Room) s m args below meth c H locs 0 0 (QI below args s D cI cZ (wX5 a5 cI cZ) A r u1) (F0 m 60 ls [])
abbrev KP_X5_sameType_28 (p : Program) (l : Launch) (e : Env) (s : State) (m : MethodId) (args : Array Value) (below : List Frame) (meth : Method) (c : Code) (D : va_G) (cI cZ : ClassId) (a5 : Nat → Nat) (A : Nat → Prop) (r : Int32) (u1 : St) (K : St → Int32 → Int32 → Int32 → Option (Int32 × St)) : Prop := ∀ (σ : St) (x1 x2 s1 : Int32) (H : Heap) (locs : List Loc) (ls : Array Slot), va_P D vwCl (wX5 a5 cI cZ σ) H → va_D A (wX5 a5 cI cZ σ) → va_S A s.heap H locs → lv_has ls 3 [(0, .ref (a5 0)), (1, .int x1), (2, .int x2)] → K σ x1 x2 s1 = some (r, u1) → W p l e ({ frames := 1, cells := 0, slots := 0, locals := 21 } : Room) s m args below meth c H locs 0 0 (QI below args s D cI cZ (wX5 a5 cI cZ) A r u1) (F0 m 28 ls [.int s1, .ref (a5 0)])
abbrev KP_X5_sameType_23 (p : Program) (l : Launch) (e : Env) (s : State) (m : MethodId) (args : Array Value) (below : List Frame) (meth : Method) (c : Code) (D : va_G) (cI cZ : ClassId) (a5 : Nat → Nat) (A : Nat → Prop) (r : Int32) (u1 : St) (K : St → Int32 → Int32 → Option (Int32 × St)) : Prop := ∀ (σ : St) (x1 x2 : Int32) (H : Heap) (locs : List Loc) (ls : Array Slot), va_P D vwCl (wX5 a5 cI cZ σ) H → va_D A (wX5 a5 cI cZ σ) → va_S A s.heap H locs → lv_has ls 3 [(0, .ref (a5 0)), (1, .int x1), (2, .int x2)] → K σ x1 x2 = some (r, u1) → W p l e ({ frames := 1, cells := 0, slots := 0, locals := 21 } : Room) s m args below meth c H locs 0 0 (QI below args s D cI cZ (wX5 a5 cI cZ) A r u1) (F0 m 23 ls [.ref (a5 0)])
set_option maxHeartbeats 4000000 in
set_option maxRecDepth 100000 in
theorem k_X5_sameType_61 {p : Program} {l : Launch} {e : Env} {s : State} {m : MethodId} {args : Array Value} {below : List Frame} {meth : Method} {c : Code} {D : va_G} {cI cZ : ClassId} {a5 : Nat → Nat} {A : Nat → Prop} {r : Int32} {u1 : St} (C0 : mB p s m args meth c D cI cZ A cX5_sameType 3 (some .boolean) wsX5_sameType RX5) (N : Nat) : KP_X5_sameType_61 p l e s m args below meth c D cI cZ a5 A r u1 (f_X5_sameType_61 N) := by
  obtain ⟨hx, hb, hml, hr, hown, hts, hlocks, hA, hK, hN⟩ := id C0
  intro σ s0 H locs ls hP hD hS hl h
  unfold f_X5_sameType_61 at h
  by_cases hz : s0 = 0 ∨ s0 = 1
  · rw [if_pos hz] at h
    obtain ⟨rfl, rfl⟩ := so h
    exact ret_z C0 hz hP hD hS dX5_sameType_61
  · rw [if_neg hz] at h; exact no h
set_option maxHeartbeats 4000000 in
set_option maxRecDepth 100000 in
theorem k_X5_sameType_60 {p : Program} {l : Launch} {e : Env} {s : State} {m : MethodId} {args : Array Value} {below : List Frame} {meth : Method} {c : Code} {D : va_G} {cI cZ : ClassId} {a5 : Nat → Nat} {A : Nat → Prop} {r : Int32} {u1 : St} (C0 : mB p s m args meth c D cI cZ A cX5_sameType 3 (some .boolean) wsX5_sameType RX5) (N : Nat) : KP_X5_sameType_60 p l e s m args below meth c D cI cZ a5 A r u1 (f_X5_sameType_60 N) := by
  obtain ⟨hx, hb, hml, hr, hown, hts, hlocks, hA, hK, hN⟩ := id C0
  intro σ H locs ls hP hD hS hl h
  unfold f_X5_sameType_60 at h
  refine lv_iconst (v := 0) hx hb dX5_sameType_60 rfl ?_
  exact k_X5_sameType_61 C0 N σ 0 _ _ _ hP hD hS (lv_sub hl [] rfl) h
set_option maxHeartbeats 4000000 in
set_option maxRecDepth 100000 in
theorem k_X5_sameType_28 {p : Program} {l : Launch} {e : Env} {s : State} {m : MethodId} {args : Array Value} {below : List Frame} {meth : Method} {c : Code} {D : va_G} {cI cZ : ClassId} {a5 : Nat → Nat} {A : Nat → Prop} {r : Int32} {u1 : St} (C0 : mB p s m args meth c D cI cZ A cX5_sameType 3 (some .boolean) wsX5_sameType RX5) (N : Nat) : KP_X5_sameType_28 p l e s m args below meth c D cI cZ a5 A r u1 (f_X5_sameType_28 N) := by
  obtain ⟨hx, hb, hml, hr, hown, hts, hlocks, hA, hK, hN⟩ := id C0
  intro σ x1 x2 s1 H locs ls hP hD hS hl h
  unfold f_X5_sameType_28 at h
  refine va_put (D := D) (ci := 5) (v := .int s1) (ty := .int) (C := RX5) (T := TX5) (N := 30) hx hb hts in_X5_sameType_X5 tyX5 tyX5_ok nmX5 hown hK hP hD hS 0 rfl rfl 0 (by decide) (hts (.fieldLink RX5 85 "TermLoomModel" "code" "I") (by decide +kernel)) (fun _ h9 => h9) rfl (by decide +kernel) rfl rfl (Nat.le_of_ble_eq_true rfl) dX5_sameType_28 (fun H locs hP hD hS => ?_)
  obtain ⟨σ1, eσ1, h⟩ := bn h
  have hP : va_P D vwCl (wX5 a5 cI cZ σ1) H := by rw [eσ1]; exact hP
  have hD : va_D A (wX5 a5 cI cZ σ1) := by rw [eσ1]; exact hD
  refine lv_aload_n hx hb dX5_sameType_31 rfl (lv_at hl 0 rfl) ?_
  refine va_get (D := D) (ci := 5) (v := .int (σ1 0 0)) (C := RX5) (T := TX5) (N := 30) hx hb hts in_X5_sameType_X5 hown hK hP 0 rfl rfl 0 (by decide) (hts (.fieldLink RX5 85 "TermLoomModel" "code" "I") (by decide +kernel)) (fun _ h9 => h9) rfl dX5_sameType_32 ?_
  refine lv_if_ne (tgt := 60) hx hb dX5_sameType_35 (by decide) (fun hc2 => ?_) (fun hc2 => ?_)
  · rw [if_neg hc2] at h
    exact k_X5_sameType_60 C0 N σ1 _ _ _ hP hD hS (lv_sub hl [] rfl) h
  · rw [if_pos hc2] at h
    refine lv_aload_n hx hb dX5_sameType_38 rfl (lv_at hl 0 rfl) ?_
    refine va_get (D := D) (ci := 5) (v := .ref (a5 16)) (C := RX5) (T := TX5) (N := 30) hx hb hts in_X5_sameType_X5 hown hK hP 0 rfl rfl 15 (by decide) (hts (.fieldLink RX5 41 "TermLoomModel" "typeAt" "[I") (by decide +kernel)) (fun _ h9 => h9) rfl dX5_sameType_39 ?_
    refine lv_iload_n hx hb dX5_sameType_42 rfl (lv_at hl 1 rfl) ?_
    by_cases hi : x1 < 0 ∨ 4200 ≤ (x1).toNatClampNeg
    · rw [if_pos hi] at h; exact no h
    rw [if_neg hi] at h
    refine va_iald (f := (σ1 15)) hx hb hK hP 10 0 rfl rfl (i := x1) hi dX5_sameType_43 ?_
    refine lv_aload_n hx hb dX5_sameType_44 rfl (lv_at hl 0 rfl) ?_
    refine va_get (D := D) (ci := 5) (v := .ref (a5 16)) (C := RX5) (T := TX5) (N := 30) hx hb hts in_X5_sameType_X5 hown hK hP 0 rfl rfl 15 (by decide) (hts (.fieldLink RX5 41 "TermLoomModel" "typeAt" "[I") (by decide +kernel)) (fun _ h9 => h9) rfl dX5_sameType_45 ?_
    refine lv_iload_n hx hb dX5_sameType_48 rfl (lv_at hl 2 rfl) ?_
    by_cases hi : x2 < 0 ∨ 4200 ≤ (x2).toNatClampNeg
    · rw [if_pos hi] at h; exact no h
    rw [if_neg hi] at h
    refine va_iald (f := (σ1 15)) hx hb hK hP 10 0 rfl rfl (i := x2) hi dX5_sameType_49 ?_
    obtain ⟨q3, hq3, h⟩ := ob h
    refine mc_i (ws' := wX5 a5 cI cZ σ1) (wr := ((wX5o a5 cI cZ σ1) : va_W)) [] [0, 1, 2, 3, 4, 5, 6, 7, 8, 9, 10, 11, 12, 13, 14, 15, 16, 17, 18, 19, 20, 21, 22] [0, 1, 2, 3, 4, 5, 6, 7, 8, 9, 10, 11, 12, 13, 14, 15, 16, 17, 18, 19, 20, 21, 22] (va_runS (As := [.int (σ1 15 (x1).toNatClampNeg), .int (σ1 15 (x2).toNatClampNeg)]) (rest := []) ⟨hx, hb, hml, hown, hts⟩ (c_X5_areSameTypes l D cI cZ N (σ1 15 (x1).toNatClampNeg) (σ1 15 (x2).toNatClampNeg) q3.1 q3.2 hq3 H.size) (va_cwS 2 hts gX5_sameType_X5_areSameTypes rfl rfl rfl (by decide +kernel) ⟨Nat.le_of_ble_eq_true rfl, Nat.le_of_ble_eq_true rfl⟩) (pS [] hP hD hK hN rfl rfl) rfl rfl hl.1 rfl (lv_room (Nat.le_of_ble_eq_true rfl)) dX5_sameType_50 ⟨Nat.le_of_ble_eq_true rfl, Nat.le_of_ble_eq_true rfl⟩) hP hD hS hA rfl rfl rfl (by decide) rfl rfl (fun H locs hP hD hS => ?_)
    refine lv_if_eq (tgt := 60) hx hb dX5_sameType_53 (by decide) (fun hc4 => ?_) (fun hc4 => ?_)
    · rw [if_pos hc4] at h
      exact k_X5_sameType_60 C0 N σ1 _ _ _ hP hD hS (lv_sub hl [] rfl) h
    · rw [if_neg hc4] at h
      refine lv_iconst (v := 1) hx hb dX5_sameType_56 rfl ?_
      refine lv_goto (tgt := 61) hx hb dX5_sameType_57 (by decide) ?_
      exact k_X5_sameType_61 C0 N σ1 1 _ _ _ hP hD hS (lv_sub hl [] rfl) h
set_option maxHeartbeats 4000000 in
set_option maxRecDepth 100000 in
theorem k_X5_sameType_23 {p : Program} {l : Launch} {e : Env} {s : State} {m : MethodId} {args : Array Value} {below : List Frame} {meth : Method} {c : Code} {D : va_G} {cI cZ : ClassId} {a5 : Nat → Nat} {A : Nat → Prop} {r : Int32} {u1 : St} (C0 : mB p s m args meth c D cI cZ A cX5_sameType 3 (some .boolean) wsX5_sameType RX5) (N : Nat) : KP_X5_sameType_23 p l e s m args below meth c D cI cZ a5 A r u1 (f_X5_sameType_23 N) := by
  obtain ⟨hx, hb, hml, hr, hown, hts, hlocks, hA, hK, hN⟩ := id C0
  intro σ x1 x2 H locs ls hP hD hS hl h
  unfold f_X5_sameType_23 at h
  refine lv_iconst (v := 1) hx hb dX5_sameType_23 rfl ?_
  refine lv_goto (tgt := 28) hx hb dX5_sameType_24 (by decide) ?_
  exact k_X5_sameType_28 C0 N σ x1 x2 1 _ _ _ hP hD hS (lv_sub hl [0, 1, 2] rfl) h
set_option maxHeartbeats 4000000 in
set_option maxRecDepth 100000 in
theorem c_X5_sameType (l : Launch) (D : va_G) (cI cZ : ClassId) (a5 : Nat → Nat) (N : Nat) (σ : St) (x1 x2 : Int32) : MI l yX5_sameType wsX5_sameType ({ frames := 1, cells := 0, slots := 0, locals := 21 } : Room) D cI cZ (wX5 a5 cI cZ) [.ref (a5 0), .int x1, .int x2] σ (f_X5_sameType N σ x1 x2) := by
  refine MI.of (cc := cX5_sameType) (maxL := 3) (ret := (some .boolean)) (own := RX5) (by decide) rfl rfl (Nat.le_of_ble_eq_true rfl) ?_
  intro r u1 h p e s m args below meth c A C0 H locs ls hP hD hS hl
  obtain ⟨hx, hb, hml, hr, hown, hts, hlocks, hA, hK, hN⟩ := id C0
  have hl : lv_has ls 3 [(0, .ref (a5 0)), (1, .int x1), (2, .int x2)] := hl
  unfold f_X5_sameType at h
  refine lv_aload_n hx hb dX5_sameType_0 rfl (lv_at hl 0 rfl) ?_
  refine lv_iload_n hx hb dX5_sameType_1 rfl (lv_at hl 1 rfl) ?_
  refine lv_aload_n hx hb dX5_sameType_2 rfl (lv_at hl 0 rfl) ?_
  refine va_get (D := D) (ci := 5) (v := .int (σ 13 0)) (C := RX5) (T := TX5) (N := 30) hx hb hts in_X5_sameType_X5 hown hK hP 0 rfl rfl 13 (by decide) (hts (.fieldLink RX5 110 "TermLoomModel" "types" "I") (by decide +kernel)) (fun _ h9 => h9) rfl dX5_sameType_3 ?_
  obtain ⟨q1, hq1, h⟩ := ob h
  refine mc_i (ws' := wX5 a5 cI cZ σ) (wr := ((wX5o a5 cI cZ σ) : va_W)) [] [0, 1, 2, 3, 4, 5, 6, 7, 8, 9, 10, 11, 12, 13, 14, 15, 16, 17, 18, 19, 20, 21, 22] [0, 1, 2, 3, 4, 5, 6, 7, 8, 9, 10, 11, 12, 13, 14, 15, 16, 17, 18, 19, 20, 21, 22] (va_runS (As := [.int x1, .int (σ 13 0)]) (rest := [.ref (a5 0)]) ⟨hx, hb, hml, hown, hts⟩ (c_X5_outside l D cI cZ N x1 (σ 13 0) q1.1 q1.2 hq1 H.size) (va_cwS 2 hts gX5_sameType_X5_outside rfl rfl rfl (by decide +kernel) ⟨Nat.le_of_ble_eq_true rfl, Nat.le_of_ble_eq_true rfl⟩) (pS [] hP hD hK hN rfl rfl) rfl rfl hl.1 rfl (lv_room (Nat.le_of_ble_eq_true rfl)) dX5_sameType_6 ⟨Nat.le_of_ble_eq_true rfl, Nat.le_of_ble_eq_true rfl⟩) hP hD hS hA rfl rfl rfl (by decide) rfl rfl (fun H locs hP hD hS => ?_)
  refine lv_if_ne (tgt := 23) hx hb dX5_sameType_9 (by decide) (fun hc2 => ?_) (fun hc2 => ?_)
  · rw [if_neg hc2] at h
    exact k_X5_sameType_23 C0 N σ x1 x2 _ _ _ hP hD hS (lv_sub hl [0, 1, 2] rfl) h
  · rw [if_pos hc2] at h
    refine lv_iload_n hx hb dX5_sameType_12 rfl (lv_at hl 2 rfl) ?_
    refine lv_aload_n hx hb dX5_sameType_13 rfl (lv_at hl 0 rfl) ?_
    refine va_get (D := D) (ci := 5) (v := .int (σ 13 0)) (C := RX5) (T := TX5) (N := 30) hx hb hts in_X5_sameType_X5 hown hK hP 0 rfl rfl 13 (by decide) (hts (.fieldLink RX5 110 "TermLoomModel" "types" "I") (by decide +kernel)) (fun _ h9 => h9) rfl dX5_sameType_14 ?_
    obtain ⟨q3, hq3, h⟩ := ob h
    refine mc_i (ws' := wX5 a5 cI cZ σ) (wr := ((wX5o a5 cI cZ σ) : va_W)) [] [0, 1, 2, 3, 4, 5, 6, 7, 8, 9, 10, 11, 12, 13, 14, 15, 16, 17, 18, 19, 20, 21, 22] [0, 1, 2, 3, 4, 5, 6, 7, 8, 9, 10, 11, 12, 13, 14, 15, 16, 17, 18, 19, 20, 21, 22] (va_runS (As := [.int x2, .int (σ 13 0)]) (rest := [.ref (a5 0)]) ⟨hx, hb, hml, hown, hts⟩ (c_X5_outside l D cI cZ N x2 (σ 13 0) q3.1 q3.2 hq3 H.size) (va_cwS 2 hts gX5_sameType_X5_outside rfl rfl rfl (by decide +kernel) ⟨Nat.le_of_ble_eq_true rfl, Nat.le_of_ble_eq_true rfl⟩) (pS [] hP hD hK hN rfl rfl) rfl rfl hl.1 rfl (lv_room (Nat.le_of_ble_eq_true rfl)) dX5_sameType_17 ⟨Nat.le_of_ble_eq_true rfl, Nat.le_of_ble_eq_true rfl⟩) hP hD hS hA rfl rfl rfl (by decide) rfl rfl (fun H locs hP hD hS => ?_)
    refine lv_if_eq (tgt := 27) hx hb dX5_sameType_20 (by decide) (fun hc4 => ?_) (fun hc4 => ?_)
    · rw [if_pos hc4] at h
      refine lv_iconst (v := 0) hx hb dX5_sameType_27 rfl ?_
      exact k_X5_sameType_28 C0 N σ x1 x2 0 _ _ _ hP hD hS (lv_sub hl [0, 1, 2] rfl) h
    · rw [if_neg hc4] at h
      exact k_X5_sameType_23 C0 N σ x1 x2 _ _ _ hP hD hS (lv_sub hl [0, 1, 2] rfl) h

theorem in_X5_occurs_X5 : ∀ w ∈ u_ws RX5 TX5 30, w ∈ wsX5_occurs := by decide +kernel
def f_X5_occurs_119 (N : Nat) (σ : St) (x3 : Int32) : Option (Int32 × St) := if x3 = 0 ∨ x3 = 1 then some (x3, σ) else none
def f_X5_occurs_112 (N : Nat) (k58 : St → Int32 → Int32 → Int32 → Int32 → Option (Int32 × St)) (σ : St) (x1 x2 x4 s0 : Int32) : Option (Int32 × St) := k58 σ x1 x2 s0 (x4 + 1)
def f_X5_occurs_107 (N : Nat) (k58 : St → Int32 → Int32 → Int32 → Int32 → Option (Int32 × St)) (σ : St) (x1 x2 x4 : Int32) : Option (Int32 × St) := f_X5_occurs_112 N k58 σ x1 x2 x4 1
def f_X5_occurs_58 (N : Nat) : Nat → St → Int32 → Int32 → Int32 → Int32 → Option (Int32 × St)
  | 0, _, _, _, _, _ => none
  | n + 1, σ, x1, x2, x3, x4 => if (σ 0 0) = 0 then if (x2 + 1) < 0 ∨ 4201 ≤ ((x2 + 1)).toNatClampNeg then none else if (σ 19 ((x2 + 1)).toNatClampNeg) ≤ x4 then f_X5_occurs_119 N σ x3 else if x3 = 0 then if x1 < 0 ∨ 4201 ≤ (x1).toNatClampNeg then none else if (σ 19 (x1).toNatClampNeg) < 0 ∨ 34100 ≤ ((σ 19 (x1).toNatClampNeg)).toNatClampNeg then none else (f_X5_topType N σ x1).bind (fun q4 => (f_X5_isVariable N q4.2 x4 (σ 20 ((σ 19 (x1).toNatClampNeg)).toNatClampNeg) q4.1).bind (fun q5 => if q5.1 = 0 then f_X5_occurs_112 N (f_X5_occurs_58 N n) q5.2 x1 x2 x4 0 else f_X5_occurs_107 N (f_X5_occurs_58 N n) q5.2 x1 x2 x4)) else f_X5_occurs_107 N (f_X5_occurs_58 N n) σ x1 x2 x4 else f_X5_occurs_119 N σ x3
def f_X5_occurs_56 (N : Nat) (σ : St) (x1 x2 x3 s0 : Int32) : Option (Int32 × St) := f_X5_occurs_58 N N σ x1 x2 x3 s0
def f_X5_occurs_34 (N : Nat) (σ : St) (x1 x2 s1 : Int32) : Option (Int32 × St) := bnd (up2 σ 0 0 s1) (fun σ1 => if (σ1 0 0) ≤ 0 then if x2 < 0 ∨ 4201 ≤ (x2).toNatClampNeg then none else f_X5_occurs_56 N σ1 x1 x2 0 (σ1 19 (x2).toNatClampNeg) else f_X5_occurs_56 N σ1 x1 x2 0 0)
def f_X5_occurs_17 (N : Nat) (σ : St) (x1 x2 : Int32) : Option (Int32 × St) := f_X5_occurs_34 N σ x1 x2 1
def f_X5_occurs (N : Nat) (σ : St) (x1 x2 : Int32) : Option (Int32 × St) := (f_X5_isTerm N σ x1).bind (fun q1 => if q1.1 = 0 then f_X5_occurs_17 N q1.2 x1 x2 else (f_X5_isTerm N q1.2 x2).bind (fun q3 => if q3.1 = 0 then f_X5_occurs_17 N q3.2 x1 x2 else (f_X5_isFree N q3.2 x1).bind (fun q5 => if q5.1 = 0 then f_X5_occurs_34 N q5.2 x1 x2 2 else f_X5_occurs_34 N q5.2 x1 x2 0)))
abbrev KP_X5_occurs_119 (p : Program) (l : Launch) (e : Env) (s : State) (m : MethodId) (args : Array Value) (below : List Frame) (meth : Method) (c : Code) (D : va_G) (cI cZ : ClassId) (a5 : Nat → Nat) (A : Nat → Prop) (r : Int32) (u1 : St) (K : St → Int32 → Option (Int32 × St)) : Prop := ∀ (σ : St) (x3 : Int32) (H : Heap) (locs : List Loc) (ls : Array Slot), va_P D vwCl (wX5 a5 cI cZ σ) H → va_D A (wX5 a5 cI cZ σ) → va_S A s.heap H locs → lv_has ls 5 [(3, .int x3)] → K σ x3 = some (r, u1) → W p l e ({ frames := 2, cells := 0, slots := 0, locals := 44 } : Room) s m args below meth c H locs 0 0 (QI below args s D cI cZ (wX5 a5 cI cZ) A r u1) (F0 m 119 ls [])
abbrev KP_X5_occurs_112 (p : Program) (l : Launch) (e : Env) (s : State) (m : MethodId) (args : Array Value) (below : List Frame) (meth : Method) (c : Code) (D : va_G) (cI cZ : ClassId) (a5 : Nat → Nat) (A : Nat → Prop) (r : Int32) (u1 : St) (K : St → Int32 → Int32 → Int32 → Int32 → Option (Int32 × St)) : Prop := ∀ (σ : St) (x1 x2 x4 s0 : Int32) (H : Heap) (locs : List Loc) (ls : Array Slot), va_P D vwCl (wX5 a5 cI cZ σ) H → va_D A (wX5 a5 cI cZ σ) → va_S A s.heap H locs → lv_has ls 5 [(0, .ref (a5 0)), (1, .int x1), (2, .int x2), (4, .int x4)] → K σ x1 x2 x4 s0 = some (r, u1) → W p l e ({ frames := 2, cells := 0, slots := 0, locals := 44 } : Room) s m args below meth c H locs 0 0 (QI below args s D cI cZ (wX5 a5 cI cZ) A r u1) (F0 m 112 ls [.int s0])
abbrev KP_X5_occurs_107 (p : Program) (l : Launch) (e : Env) (s : State) (m : MethodId) (args : Array Value) (below : List Frame) (meth : Method) (c : Code) (D : va_G) (cI cZ : ClassId) (a5 : Nat → Nat) (A : Nat → Prop) (r : Int32) (u1 : St) (K : St → Int32 → Int32 → Int32 → Option (Int32 × St)) : Prop := ∀ (σ : St) (x1 x2 x4 : Int32) (H : Heap) (locs : List Loc) (ls : Array Slot), va_P D vwCl (wX5 a5 cI cZ σ) H → va_D A (wX5 a5 cI cZ σ) → va_S A s.heap H locs → lv_has ls 5 [(0, .ref (a5 0)), (1, .int x1), (2, .int x2), (4, .int x4)] → K σ x1 x2 x4 = some (r, u1) → W p l e ({ frames := 2, cells := 0, slots := 0, locals := 44 } : Room) s m args below meth c H locs 0 0 (QI below args s D cI cZ (wX5 a5 cI cZ) A r u1) (F0 m 107 ls [])
abbrev KP_X5_occurs_58 (p : Program) (l : Launch) (e : Env) (s : State) (m : MethodId) (args : Array Value) (below : List Frame) (meth : Method) (c : Code) (D : va_G) (cI cZ : ClassId) (a5 : Nat → Nat) (A : Nat → Prop) (r : Int32) (u1 : St) (K : St → Int32 → Int32 → Int32 → Int32 → Option (Int32 × St)) : Prop := ∀ (σ : St) (x1 x2 x3 x4 : Int32) (H : Heap) (locs : List Loc) (ls : Array Slot), va_P D vwCl (wX5 a5 cI cZ σ) H → va_D A (wX5 a5 cI cZ σ) → va_S A s.heap H locs → lv_has ls 5 [(0, .ref (a5 0)), (1, .int x1), (2, .int x2), (3, .int x3), (4, .int x4)] → K σ x1 x2 x3 x4 = some (r, u1) → W p l e ({ frames := 2, cells := 0, slots := 0, locals := 44 } : Room) s m args below meth c H locs 0 0 (QI below args s D cI cZ (wX5 a5 cI cZ) A r u1) (F0 m 58 ls [])
abbrev KP_X5_occurs_56 (p : Program) (l : Launch) (e : Env) (s : State) (m : MethodId) (args : Array Value) (below : List Frame) (meth : Method) (c : Code) (D : va_G) (cI cZ : ClassId) (a5 : Nat → Nat) (A : Nat → Prop) (r : Int32) (u1 : St) (K : St → Int32 → Int32 → Int32 → Int32 → Option (Int32 × St)) : Prop := ∀ (σ : St) (x1 x2 x3 s0 : Int32) (H : Heap) (locs : List Loc) (ls : Array Slot), va_P D vwCl (wX5 a5 cI cZ σ) H → va_D A (wX5 a5 cI cZ σ) → va_S A s.heap H locs → lv_has ls 5 [(0, .ref (a5 0)), (1, .int x1), (2, .int x2), (3, .int x3)] → K σ x1 x2 x3 s0 = some (r, u1) → W p l e ({ frames := 2, cells := 0, slots := 0, locals := 44 } : Room) s m args below meth c H locs 0 0 (QI below args s D cI cZ (wX5 a5 cI cZ) A r u1) (F0 m 56 ls [.int s0])
abbrev KP_X5_occurs_34 (p : Program) (l : Launch) (e : Env) (s : State) (m : MethodId) (args : Array Value) (below : List Frame) (meth : Method) (c : Code) (D : va_G) (cI cZ : ClassId) (a5 : Nat → Nat) (A : Nat → Prop) (r : Int32) (u1 : St) (K : St → Int32 → Int32 → Int32 → Option (Int32 × St)) : Prop := ∀ (σ : St) (x1 x2 s1 : Int32) (H : Heap) (locs : List Loc) (ls : Array Slot), va_P D vwCl (wX5 a5 cI cZ σ) H → va_D A (wX5 a5 cI cZ σ) → va_S A s.heap H locs → lv_has ls 5 [(0, .ref (a5 0)), (1, .int x1), (2, .int x2)] → K σ x1 x2 s1 = some (r, u1) → W p l e ({ frames := 2, cells := 0, slots := 0, locals := 44 } : Room) s m args below meth c H locs 0 0 (QI below args s D cI cZ (wX5 a5 cI cZ) A r u1) (F0 m 34 ls [.int s1, .ref (a5 0)])
abbrev KP_X5_occurs_17 (p : Program) (l : Launch) (e : Env) (s : State) (m : MethodId) (args : Array Value) (below : List Frame) (meth : Method) (c : Code) (D : va_G) (cI cZ : ClassId) (a5 : Nat → Nat) (A : Nat → Prop) (r : Int32) (u1 : St) (K : St → Int32 → Int32 → Option (Int32 × St)) : Prop := ∀ (σ : St) (x1 x2 : Int32) (H : Heap) (locs : List Loc) (ls : Array Slot), va_P D vwCl (wX5 a5 cI cZ σ) H → va_D A (wX5 a5 cI cZ σ) → va_S A s.heap H locs → lv_has ls 5 [(0, .ref (a5 0)), (1, .int x1), (2, .int x2)] → K σ x1 x2 = some (r, u1) → W p l e ({ frames := 2, cells := 0, slots := 0, locals := 44 } : Room) s m args below meth c H locs 0 0 (QI below args s D cI cZ (wX5 a5 cI cZ) A r u1) (F0 m 17 ls [.ref (a5 0)])
set_option maxHeartbeats 4000000 in
set_option maxRecDepth 100000 in
theorem k_X5_occurs_119 {p : Program} {l : Launch} {e : Env} {s : State} {m : MethodId} {args : Array Value} {below : List Frame} {meth : Method} {c : Code} {D : va_G} {cI cZ : ClassId} {a5 : Nat → Nat} {A : Nat → Prop} {r : Int32} {u1 : St} (C0 : mB p s m args meth c D cI cZ A cX5_occurs 5 (some .boolean) wsX5_occurs RX5) (N : Nat) : KP_X5_occurs_119 p l e s m args below meth c D cI cZ a5 A r u1 (f_X5_occurs_119 N) := by
  obtain ⟨hx, hb, hml, hr, hown, hts, hlocks, hA, hK, hN⟩ := id C0
  intro σ x3 H locs ls hP hD hS hl h
  unfold f_X5_occurs_119 at h
  refine lv_iload_n hx hb dX5_occurs_119 rfl (lv_at hl 0 rfl) ?_
  by_cases hz : x3 = 0 ∨ x3 = 1
  · rw [if_pos hz] at h
    obtain ⟨rfl, rfl⟩ := so h
    exact ret_z C0 hz hP hD hS dX5_occurs_120
  · rw [if_neg hz] at h; exact no h
set_option maxHeartbeats 4000000 in
set_option maxRecDepth 100000 in
theorem k_X5_occurs_112 {p : Program} {l : Launch} {e : Env} {s : State} {m : MethodId} {args : Array Value} {below : List Frame} {meth : Method} {c : Code} {D : va_G} {cI cZ : ClassId} {a5 : Nat → Nat} {A : Nat → Prop} {r : Int32} {u1 : St} (C0 : mB p s m args meth c D cI cZ A cX5_occurs 5 (some .boolean) wsX5_occurs RX5) (N : Nat) (k58 : St → Int32 → Int32 → Int32 → Int32 → Option (Int32 × St)) (hk58 : KP_X5_occurs_58 p l e s m args below meth c D cI cZ a5 A r u1 k58) : KP_X5_occurs_112 p l e s m args below meth c D cI cZ a5 A r u1 (f_X5_occurs_112 N k58) := by
  obtain ⟨hx, hb, hml, hr, hown, hts, hlocks, hA, hK, hN⟩ := id C0
  intro σ x1 x2 x4 s0 H locs ls hP hD hS hl h
  unfold f_X5_occurs_112 at h
  refine lv_istore_n (lv' := [(3, .int s0), (0, .ref (a5 0)), (1, .int x1), (2, .int x2), (4, .int x4)]) hx hb dX5_occurs_112 rfl hl (by decide) rfl (fun ls hl => ?_)
  refine lv_iinc (v := (x4 + 1)) (lv' := [(4, .int (x4 + 1)), (3, .int s0), (0, .ref (a5 0)), (1, .int x1), (2, .int x2)]) hx hb dX5_occurs_113 hl (k := 4) rfl rfl (by decide) rfl (fun ls hl => ?_)
  refine lv_goto (tgt := 58) hx hb dX5_occurs_116 (by decide) ?_
  exact hk58 σ x1 x2 s0 (x4 + 1) _ _ _ hP hD hS (lv_sub hl [2, 3, 4, 1, 0] rfl) h
set_option maxHeartbeats 4000000 in
set_option maxRecDepth 100000 in
theorem k_X5_occurs_107 {p : Program} {l : Launch} {e : Env} {s : State} {m : MethodId} {args : Array Value} {below : List Frame} {meth : Method} {c : Code} {D : va_G} {cI cZ : ClassId} {a5 : Nat → Nat} {A : Nat → Prop} {r : Int32} {u1 : St} (C0 : mB p s m args meth c D cI cZ A cX5_occurs 5 (some .boolean) wsX5_occurs RX5) (N : Nat) (k58 : St → Int32 → Int32 → Int32 → Int32 → Option (Int32 × St)) (hk58 : KP_X5_occurs_58 p l e s m args below meth c D cI cZ a5 A r u1 k58) : KP_X5_occurs_107 p l e s m args below meth c D cI cZ a5 A r u1 (f_X5_occurs_107 N k58) := by
  obtain ⟨hx, hb, hml, hr, hown, hts, hlocks, hA, hK, hN⟩ := id C0
  intro σ x1 x2 x4 H locs ls hP hD hS hl h
  unfold f_X5_occurs_107 at h
  refine lv_iconst (v := 1) hx hb dX5_occurs_107 rfl ?_
  refine lv_goto (tgt := 112) hx hb dX5_occurs_108 (by decide) ?_
  exact k_X5_occurs_112 C0 N k58 hk58 σ x1 x2 x4 1 _ _ _ hP hD hS (lv_sub hl [0, 1, 2, 3] rfl) h
set_option maxHeartbeats 4000000 in
set_option maxRecDepth 100000 in
theorem k_X5_occurs_58 {p : Program} {l : Launch} {e : Env} {s : State} {m : MethodId} {args : Array Value} {below : List Frame} {meth : Method} {c : Code} {D : va_G} {cI cZ : ClassId} {a5 : Nat → Nat} {A : Nat → Prop} {r : Int32} {u1 : St} (C0 : mB p s m args meth c D cI cZ A cX5_occurs 5 (some .boolean) wsX5_occurs RX5) (N : Nat) : ∀ n : Nat, KP_X5_occurs_58 p l e s m args below meth c D cI cZ a5 A r u1 (f_X5_occurs_58 N n) := by
  obtain ⟨hx, hb, hml, hr, hown, hts, hlocks, hA, hK, hN⟩ := id C0
  intro n
  induction n with
  | zero =>
    intro σ x1 x2 x3 x4 H locs ls hP hD hS hl h
    exact no (show (none : Option (Int32 × St)) = _ from h)
  | succ n ih =>
    intro σ x1 x2 x3 x4 H locs ls hP hD hS hl h
    rw [f_X5_occurs_58] at h
    refine lv_aload_n hx hb dX5_occurs_58 rfl (lv_at hl 0 rfl) ?_
    refine va_get (D := D) (ci := 5) (v := .int (σ 0 0)) (C := RX5) (T := TX5) (N := 30) hx hb hts in_X5_occurs_X5 hown hK hP 0 rfl rfl 0 (by decide) (hts (.fieldLink RX5 85 "TermLoomModel" "code" "I") (by decide +kernel)) (fun _ h9 => h9) rfl dX5_occurs_59 ?_
    refine lv_if_ne (tgt := 119) hx hb dX5_occurs_62 (by decide) (fun hc1 => ?_) (fun hc1 => ?_)
    · rw [if_neg hc1] at h
      exact k_X5_occurs_119 C0 N σ x3 _ _ _ hP hD hS (lv_sub hl [3] rfl) h
    · rw [if_pos hc1] at h
      refine lv_iload hx hb dX5_occurs_65 (lv_at hl 4 rfl) ?_
      refine lv_aload_n hx hb dX5_occurs_67 rfl (lv_at hl 0 rfl) ?_
      refine va_get (D := D) (ci := 5) (v := .ref (a5 20)) (C := RX5) (T := TX5) (N := 30) hx hb hts in_X5_occurs_X5 hown hK hP 0 rfl rfl 19 (by decide) (hts (.fieldLink RX5 51 "TermLoomModel" "begin" "[I") (by decide +kernel)) (fun _ h9 => h9) rfl dX5_occurs_68 ?_
      refine lv_iload_n hx hb dX5_occurs_71 rfl (lv_at hl 2 rfl) ?_
      refine lv_iconst (v := 1) hx hb dX5_occurs_72 rfl ?_
      refine lv_iadd hx hb dX5_occurs_73 ?_
      by_cases hi : (x2 + 1) < 0 ∨ 4201 ≤ ((x2 + 1)).toNatClampNeg
      · rw [if_pos hi] at h; exact no h
      rw [if_neg hi] at h
      refine va_iald (f := (σ 19)) hx hb hK hP 13 0 rfl rfl (i := (x2 + 1)) hi dX5_occurs_74 ?_
      refine lv_icmp_ge (tgt := 119) hx hb dX5_occurs_75 (by decide) (fun hc2 => ?_) (fun hc2 => ?_)
      · rw [if_pos hc2] at h
        exact k_X5_occurs_119 C0 N σ x3 _ _ _ hP hD hS (lv_sub hl [3] rfl) h
      · rw [if_neg hc2] at h
        refine lv_iload_n hx hb dX5_occurs_78 rfl (lv_at hl 3 rfl) ?_
        refine lv_if_ne (tgt := 107) hx hb dX5_occurs_79 (by decide) (fun hc3 => ?_) (fun hc3 => ?_)
        · rw [if_neg hc3] at h
          exact k_X5_occurs_107 C0 N (f_X5_occurs_58 N n) ih σ x1 x2 x4 _ _ _ hP hD hS (lv_sub hl [0, 1, 2, 4] rfl) h
        · rw [if_pos hc3] at h
          refine lv_aload_n hx hb dX5_occurs_82 rfl (lv_at hl 0 rfl) ?_
          refine lv_iload hx hb dX5_occurs_83 (lv_at hl 4 rfl) ?_
          refine lv_aload_n hx hb dX5_occurs_85 rfl (lv_at hl 0 rfl) ?_
          refine va_get (D := D) (ci := 5) (v := .ref (a5 21)) (C := RX5) (T := TX5) (N := 30) hx hb hts in_X5_occurs_X5 hown hK hP 0 rfl rfl 20 (by decide) (hts (.fieldLink RX5 55 "TermLoomModel" "symbol" "[I") (by decide +kernel)) (fun _ h9 => h9) rfl dX5_occurs_86 ?_
          refine lv_aload_n hx hb dX5_occurs_89 rfl (lv_at hl 0 rfl) ?_
          refine va_get (D := D) (ci := 5) (v := .ref (a5 20)) (C := RX5) (T := TX5) (N := 30) hx hb hts in_X5_occurs_X5 hown hK hP 0 rfl rfl 19 (by decide) (hts (.fieldLink RX5 51 "TermLoomModel" "begin" "[I") (by decide +kernel)) (fun _ h9 => h9) rfl dX5_occurs_90 ?_
          refine lv_iload_n hx hb dX5_occurs_93 rfl (lv_at hl 1 rfl) ?_
          by_cases hi : x1 < 0 ∨ 4201 ≤ (x1).toNatClampNeg
          · rw [if_pos hi] at h; exact no h
          rw [if_neg hi] at h
          refine va_iald (f := (σ 19)) hx hb hK hP 13 0 rfl rfl (i := x1) hi dX5_occurs_94 ?_
          by_cases hi : (σ 19 (x1).toNatClampNeg) < 0 ∨ 34100 ≤ ((σ 19 (x1).toNatClampNeg)).toNatClampNeg
          · rw [if_pos hi] at h; exact no h
          rw [if_neg hi] at h
          refine va_iald (f := (σ 20)) hx hb hK hP 14 0 rfl rfl (i := (σ 19 (x1).toNatClampNeg)) hi dX5_occurs_95 ?_
          refine lv_aload_n hx hb dX5_occurs_96 rfl (lv_at hl 0 rfl) ?_
          refine lv_iload_n hx hb dX5_occurs_97 rfl (lv_at hl 1 rfl) ?_
          obtain ⟨q4, hq4, h⟩ := ob h
          refine mc_i (ws' := wX5 a5 cI cZ q4.2) (wr := ([] : va_W)) [0, 1, 2, 3, 4, 5, 6, 7, 8, 9, 10, 11, 12, 13, 14, 15, 16, 17, 18, 19, 20, 21, 22] [] [0, 1, 2, 3, 4, 5, 6, 7, 8, 9, 10, 11, 12, 13, 14, 15, 16, 17, 18, 19, 20, 21, 22] (va_runV (As := [.int x1]) (rest := [.int (σ 20 ((σ 19 (x1).toNatClampNeg)).toNatClampNeg), .int x4, .ref (a5 0)]) ⟨hx, hb, hml, hown, hts⟩ (c_X5_topType l D cI cZ a5 N σ x1 q4.1 q4.2 hq4 H.size) (cwV 1 hts gX5_occurs_X5_topType rfl rfl rfl (by decide +kernel) ⟨Nat.le_of_ble_eq_true rfl, Nat.le_of_ble_eq_true rfl⟩) (pV [0, 1, 2, 3, 4, 5, 6, 7, 8, 9, 10, 11, 12, 13, 14, 15, 16, 17, 18, 19, 20, 21, 22] hP hD hK hN rfl rfl rfl rfl) rfl rfl hl.1 rfl (lv_room (Nat.le_of_ble_eq_true rfl)) dX5_occurs_98 ⟨Nat.le_of_ble_eq_true rfl, Nat.le_of_ble_eq_true rfl⟩) hP hD hS hA rfl rfl rfl (by decide) rfl rfl (fun H locs hP hD hS => ?_)
          obtain ⟨q5, hq5, h⟩ := ob h
          refine mc_i (ws' := wX5 a5 cI cZ q5.2) (wr := ([] : va_W)) [0, 1, 2, 3, 4, 5, 6, 7, 8, 9, 10, 11, 12, 13, 14, 15, 16, 17, 18, 19, 20, 21, 22] [] [0, 1, 2, 3, 4, 5, 6, 7, 8, 9, 10, 11, 12, 13, 14, 15, 16, 17, 18, 19, 20, 21, 22] (va_runV (As := [.int x4, .int (σ 20 ((σ 19 (x1).toNatClampNeg)).toNatClampNeg), .int q4.1]) (rest := []) ⟨hx, hb, hml, hown, hts⟩ (c_X5_isVariable l D cI cZ a5 N q4.2 x4 (σ 20 ((σ 19 (x1).toNatClampNeg)).toNatClampNeg) q4.1 q5.1 q5.2 hq5 H.size) (cwV 3 hts gX5_occurs_X5_isVariable rfl rfl rfl (by decide +kernel) ⟨Nat.le_of_ble_eq_true rfl, Nat.le_of_ble_eq_true rfl⟩) (pV [0, 1, 2, 3, 4, 5, 6, 7, 8, 9, 10, 11, 12, 13, 14, 15, 16, 17, 18, 19, 20, 21, 22] hP hD hK hN rfl rfl rfl rfl) rfl rfl hl.1 rfl (lv_room (Nat.le_of_ble_eq_true rfl)) dX5_occurs_101 ⟨Nat.le_of_ble_eq_true rfl, Nat.le_of_ble_eq_true rfl⟩) hP hD hS hA rfl rfl rfl (by decide) rfl rfl (fun H locs hP hD hS => ?_)
          refine lv_if_eq (tgt := 111) hx hb dX5_occurs_104 (by decide) (fun hc6 => ?_) (fun hc6 => ?_)
          · rw [if_pos hc6] at h
            refine lv_iconst (v := 0) hx hb dX5_occurs_111 rfl ?_
            exact k_X5_occurs_112 C0 N (f_X5_occurs_58 N n) ih q5.2 x1 x2 x4 0 _ _ _ hP hD hS (lv_sub hl [0, 1, 2, 4] rfl) h
          · rw [if_neg hc6] at h
            exact k_X5_occurs_107 C0 N (f_X5_occurs_58 N n) ih q5.2 x1 x2 x4 _ _ _ hP hD hS (lv_sub hl [0, 1, 2, 4] rfl) h
set_option maxHeartbeats 4000000 in
set_option maxRecDepth 100000 in
theorem k_X5_occurs_56 {p : Program} {l : Launch} {e : Env} {s : State} {m : MethodId} {args : Array Value} {below : List Frame} {meth : Method} {c : Code} {D : va_G} {cI cZ : ClassId} {a5 : Nat → Nat} {A : Nat → Prop} {r : Int32} {u1 : St} (C0 : mB p s m args meth c D cI cZ A cX5_occurs 5 (some .boolean) wsX5_occurs RX5) (N : Nat) : KP_X5_occurs_56 p l e s m args below meth c D cI cZ a5 A r u1 (f_X5_occurs_56 N) := by
  obtain ⟨hx, hb, hml, hr, hown, hts, hlocks, hA, hK, hN⟩ := id C0
  intro σ x1 x2 x3 s0 H locs ls hP hD hS hl h
  unfold f_X5_occurs_56 at h
  refine lv_istore (lv' := [(4, .int s0), (0, .ref (a5 0)), (1, .int x1), (2, .int x2), (3, .int x3)]) hx hb dX5_occurs_56 hl (by decide) rfl (fun ls hl => ?_)
  exact k_X5_occurs_58 C0 N N σ x1 x2 x3 s0 _ _ _ hP hD hS (lv_sub hl [1, 2, 3, 4, 0] rfl) h
set_option maxHeartbeats 4000000 in
set_option maxRecDepth 100000 in
theorem k_X5_occurs_34 {p : Program} {l : Launch} {e : Env} {s : State} {m : MethodId} {args : Array Value} {below : List Frame} {meth : Method} {c : Code} {D : va_G} {cI cZ : ClassId} {a5 : Nat → Nat} {A : Nat → Prop} {r : Int32} {u1 : St} (C0 : mB p s m args meth c D cI cZ A cX5_occurs 5 (some .boolean) wsX5_occurs RX5) (N : Nat) : KP_X5_occurs_34 p l e s m args below meth c D cI cZ a5 A r u1 (f_X5_occurs_34 N) := by
  obtain ⟨hx, hb, hml, hr, hown, hts, hlocks, hA, hK, hN⟩ := id C0
  intro σ x1 x2 s1 H locs ls hP hD hS hl h
  unfold f_X5_occurs_34 at h
  refine va_put (D := D) (ci := 5) (v := .int s1) (ty := .int) (C := RX5) (T := TX5) (N := 30) hx hb hts in_X5_occurs_X5 tyX5 tyX5_ok nmX5 hown hK hP hD hS 0 rfl rfl 0 (by decide) (hts (.fieldLink RX5 85 "TermLoomModel" "code" "I") (by decide +kernel)) (fun _ h9 => h9) rfl (by decide +kernel) rfl rfl (Nat.le_of_ble_eq_true rfl) dX5_occurs_34 (fun H locs hP hD hS => ?_)
  obtain ⟨σ1, eσ1, h⟩ := bn h
  have hP : va_P D vwCl (wX5 a5 cI cZ σ1) H := by rw [eσ1]; exact hP
  have hD : va_D A (wX5 a5 cI cZ σ1) := by rw [eσ1]; exact hD
  refine lv_iconst (v := 0) hx hb dX5_occurs_37 rfl ?_
  refine lv_istore_n (lv' := [(3, .int 0), (0, .ref (a5 0)), (1, .int x1), (2, .int x2)]) hx hb dX5_occurs_38 rfl hl (by decide) rfl (fun ls hl => ?_)
  refine lv_aload_n hx hb dX5_occurs_39 rfl (lv_at hl 1 rfl) ?_
  refine va_get (D := D) (ci := 5) (v := .int (σ1 0 0)) (C := RX5) (T := TX5) (N := 30) hx hb hts in_X5_occurs_X5 hown hK hP 0 rfl rfl 0 (by decide) (hts (.fieldLink RX5 85 "TermLoomModel" "code" "I") (by decide +kernel)) (fun _ h9 => h9) rfl dX5_occurs_40 ?_
  refine lv_if_le (tgt := 50) hx hb dX5_occurs_43 (by decide) (fun hc2 => ?_) (fun hc2 => ?_)
  · rw [if_pos hc2] at h
    refine lv_aload_n hx hb dX5_occurs_50 rfl (lv_at hl 1 rfl) ?_
    refine va_get (D := D) (ci := 5) (v := .ref (a5 20)) (C := RX5) (T := TX5) (N := 30) hx hb hts in_X5_occurs_X5 hown hK hP 0 rfl rfl 19 (by decide) (hts (.fieldLink RX5 51 "TermLoomModel" "begin" "[I") (by decide +kernel)) (fun _ h9 => h9) rfl dX5_occurs_51 ?_
    refine lv_iload_n hx hb dX5_occurs_54 rfl (lv_at hl 3 rfl) ?_
    by_cases hi : x2 < 0 ∨ 4201 ≤ (x2).toNatClampNeg
    · rw [if_pos hi] at h; exact no h
    rw [if_neg hi] at h
    refine va_iald (f := (σ1 19)) hx hb hK hP 13 0 rfl rfl (i := x2) hi dX5_occurs_55 ?_
    exact k_X5_occurs_56 C0 N σ1 x1 x2 0 (σ1 19 (x2).toNatClampNeg) _ _ _ hP hD hS (lv_sub hl [1, 2, 3, 0] rfl) h
  · rw [if_neg hc2] at h
    refine lv_iconst (v := 0) hx hb dX5_occurs_46 rfl ?_
    refine lv_goto (tgt := 56) hx hb dX5_occurs_47 (by decide) ?_
    exact k_X5_occurs_56 C0 N σ1 x1 x2 0 0 _ _ _ hP hD hS (lv_sub hl [1, 2, 3, 0] rfl) h
set_option maxHeartbeats 4000000 in
set_option maxRecDepth 100000 in
theorem k_X5_occurs_17 {p : Program} {l : Launch} {e : Env} {s : State} {m : MethodId} {args : Array Value} {below : List Frame} {meth : Method} {c : Code} {D : va_G} {cI cZ : ClassId} {a5 : Nat → Nat} {A : Nat → Prop} {r : Int32} {u1 : St} (C0 : mB p s m args meth c D cI cZ A cX5_occurs 5 (some .boolean) wsX5_occurs RX5) (N : Nat) : KP_X5_occurs_17 p l e s m args below meth c D cI cZ a5 A r u1 (f_X5_occurs_17 N) := by
  obtain ⟨hx, hb, hml, hr, hown, hts, hlocks, hA, hK, hN⟩ := id C0
  intro σ x1 x2 H locs ls hP hD hS hl h
  unfold f_X5_occurs_17 at h
  refine lv_iconst (v := 1) hx hb dX5_occurs_17 rfl ?_
  refine lv_goto (tgt := 34) hx hb dX5_occurs_18 (by decide) ?_
  exact k_X5_occurs_34 C0 N σ x1 x2 1 _ _ _ hP hD hS (lv_sub hl [0, 1, 2] rfl) h
set_option maxHeartbeats 4000000 in
set_option maxRecDepth 100000 in
theorem c_X5_occurs (l : Launch) (D : va_G) (cI cZ : ClassId) (a5 : Nat → Nat) (N : Nat) (σ : St) (x1 x2 : Int32) : MI l yX5_occurs wsX5_occurs ({ frames := 2, cells := 0, slots := 0, locals := 44 } : Room) D cI cZ (wX5 a5 cI cZ) [.ref (a5 0), .int x1, .int x2] σ (f_X5_occurs N σ x1 x2) := by
  refine MI.of (cc := cX5_occurs) (maxL := 5) (ret := (some .boolean)) (own := RX5) (by decide) rfl rfl (Nat.le_of_ble_eq_true rfl) ?_
  intro r u1 h p e s m args below meth c A C0 H locs ls hP hD hS hl
  obtain ⟨hx, hb, hml, hr, hown, hts, hlocks, hA, hK, hN⟩ := id C0
  have hl : lv_has ls 5 [(0, .ref (a5 0)), (1, .int x1), (2, .int x2)] := hl
  unfold f_X5_occurs at h
  refine lv_aload_n hx hb dX5_occurs_0 rfl (lv_at hl 0 rfl) ?_
  refine lv_aload_n hx hb dX5_occurs_1 rfl (lv_at hl 0 rfl) ?_
  refine lv_iload_n hx hb dX5_occurs_2 rfl (lv_at hl 1 rfl) ?_
  obtain ⟨q1, hq1, h⟩ := ob h
  refine mc_i (ws' := wX5 a5 cI cZ q1.2) (wr := ([] : va_W)) [0, 1, 2, 3, 4, 5, 6, 7, 8, 9, 10, 11, 12, 13, 14, 15, 16, 17, 18, 19, 20, 21, 22] [] [0, 1, 2, 3, 4, 5, 6, 7, 8, 9, 10, 11, 12, 13, 14, 15, 16, 17, 18, 19, 20, 21, 22] (va_runV (As := [.int x1]) (rest := [.ref (a5 0)]) ⟨hx, hb, hml, hown, hts⟩ (c_X5_isTerm l D cI cZ a5 N σ x1 q1.1 q1.2 hq1 H.size) (cwV 1 hts gX5_occurs_X5_isTerm rfl rfl rfl (by decide +kernel) ⟨Nat.le_of_ble_eq_true rfl, Nat.le_of_ble_eq_true rfl⟩) (pV [0, 1, 2, 3, 4, 5, 6, 7, 8, 9, 10, 11, 12, 13, 14, 15, 16, 17, 18, 19, 20, 21, 22] hP hD hK hN rfl rfl rfl rfl) rfl rfl hl.1 rfl (lv_room (Nat.le_of_ble_eq_true rfl)) dX5_occurs_3 ⟨Nat.le_of_ble_eq_true rfl, Nat.le_of_ble_eq_true rfl⟩) hP hD hS hA rfl rfl rfl (by decide) rfl rfl (fun H locs hP hD hS => ?_)
  refine lv_if_eq (tgt := 17) hx hb dX5_occurs_6 (by decide) (fun hc2 => ?_) (fun hc2 => ?_)
  · rw [if_pos hc2] at h
    exact k_X5_occurs_17 C0 N q1.2 x1 x2 _ _ _ hP hD hS (lv_sub hl [0, 1, 2] rfl) h
  · rw [if_neg hc2] at h
    refine lv_aload_n hx hb dX5_occurs_9 rfl (lv_at hl 0 rfl) ?_
    refine lv_iload_n hx hb dX5_occurs_10 rfl (lv_at hl 2 rfl) ?_
    obtain ⟨q3, hq3, h⟩ := ob h
    refine mc_i (ws' := wX5 a5 cI cZ q3.2) (wr := ([] : va_W)) [0, 1, 2, 3, 4, 5, 6, 7, 8, 9, 10, 11, 12, 13, 14, 15, 16, 17, 18, 19, 20, 21, 22] [] [0, 1, 2, 3, 4, 5, 6, 7, 8, 9, 10, 11, 12, 13, 14, 15, 16, 17, 18, 19, 20, 21, 22] (va_runV (As := [.int x2]) (rest := [.ref (a5 0)]) ⟨hx, hb, hml, hown, hts⟩ (c_X5_isTerm l D cI cZ a5 N q1.2 x2 q3.1 q3.2 hq3 H.size) (cwV 1 hts gX5_occurs_X5_isTerm rfl rfl rfl (by decide +kernel) ⟨Nat.le_of_ble_eq_true rfl, Nat.le_of_ble_eq_true rfl⟩) (pV [0, 1, 2, 3, 4, 5, 6, 7, 8, 9, 10, 11, 12, 13, 14, 15, 16, 17, 18, 19, 20, 21, 22] hP hD hK hN rfl rfl rfl rfl) rfl rfl hl.1 rfl (lv_room (Nat.le_of_ble_eq_true rfl)) dX5_occurs_11 ⟨Nat.le_of_ble_eq_true rfl, Nat.le_of_ble_eq_true rfl⟩) hP hD hS hA rfl rfl rfl (by decide) rfl rfl (fun H locs hP hD hS => ?_)
    refine lv_if_ne (tgt := 21) hx hb dX5_occurs_14 (by decide) (fun hc4 => ?_) (fun hc4 => ?_)
    · rw [if_neg hc4] at h
      refine lv_aload_n hx hb dX5_occurs_21 rfl (lv_at hl 0 rfl) ?_
      refine lv_iload_n hx hb dX5_occurs_22 rfl (lv_at hl 1 rfl) ?_
      obtain ⟨q5, hq5, h⟩ := ob h
      refine mc_i (ws' := wX5 a5 cI cZ q5.2) (wr := ([] : va_W)) [0, 1, 2, 3, 4, 5, 6, 7, 8, 9, 10, 11, 12, 13, 14, 15, 16, 17, 18, 19, 20, 21, 22] [] [0, 1, 2, 3, 4, 5, 6, 7, 8, 9, 10, 11, 12, 13, 14, 15, 16, 17, 18, 19, 20, 21, 22] (va_runV (As := [.int x1]) (rest := [.ref (a5 0)]) ⟨hx, hb, hml, hown, hts⟩ (c_X5_isFree l D cI cZ a5 N q3.2 x1 q5.1 q5.2 hq5 H.size) (cwV 1 hts gX5_occurs_X5_isFree rfl rfl rfl (by decide +kernel) ⟨Nat.le_of_ble_eq_true rfl, Nat.le_of_ble_eq_true rfl⟩) (pV [0, 1, 2, 3, 4, 5, 6, 7, 8, 9, 10, 11, 12, 13, 14, 15, 16, 17, 18, 19, 20, 21, 22] hP hD hK hN rfl rfl rfl rfl) rfl rfl hl.1 rfl (lv_room (Nat.le_of_ble_eq_true rfl)) dX5_occurs_23 ⟨Nat.le_of_ble_eq_true rfl, Nat.le_of_ble_eq_true rfl⟩) hP hD hS hA rfl rfl rfl (by decide) rfl rfl (fun H locs hP hD hS => ?_)
      refine lv_if_ne (tgt := 33) hx hb dX5_occurs_26 (by decide) (fun hc6 => ?_) (fun hc6 => ?_)
      · rw [if_neg hc6] at h
        refine lv_iconst (v := 0) hx hb dX5_occurs_33 rfl ?_
        exact k_X5_occurs_34 C0 N q5.2 x1 x2 0 _ _ _ hP hD hS (lv_sub hl [0, 1, 2] rfl) h
      · rw [if_pos hc6] at h
        refine lv_iconst (v := 2) hx hb dX5_occurs_29 rfl ?_
        refine lv_goto (tgt := 34) hx hb dX5_occurs_30 (by decide) ?_
        exact k_X5_occurs_34 C0 N q5.2 x1 x2 2 _ _ _ hP hD hS (lv_sub hl [0, 1, 2] rfl) h
    · rw [if_pos hc4] at h
      exact k_X5_occurs_17 C0 N q3.2 x1 x2 _ _ _ hP hD hS (lv_sub hl [0, 1, 2] rfl) h
