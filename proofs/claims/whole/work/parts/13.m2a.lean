theorem in_X2_count_X2 : ∀ w ∈ u_ws RX2 TX2 14, w ∈ wsX2_count := by decide +kernel
def f_X2_count (N : Nat) (y : St) : Option (Int32 × St) := some ((y 10 0), y)
set_option maxHeartbeats 4000000 in
set_option maxRecDepth 100000 in
theorem c_X2_count (l : Launch) (D : va_G) (cI cZ : ClassId) (a2 : Nat → Nat) (N : Nat) (y : St) : MI l yX2_count wsX2_count ({ frames := 0, cells := 0, slots := 0, locals := 0 } : Room) D cI cZ (wX2 a2 cI cZ) [.ref (a2 0)] y (f_X2_count N y) := by
  refine MI.of (cc := cX2_count) (maxL := 1) (ret := (some .int)) (own := RX2) (by decide) rfl rfl (Nat.le_of_ble_eq_true rfl) ?_
  intro r u1 h p e s m args below meth c A C0 H locs ls hP hD hS hl
  obtain ⟨hx, hb, hml, hr, hown, hts, hlocks, hA, hK, hN⟩ := id C0
  have hl : lv_has ls 1 [(0, .ref (a2 0))] := hl
  unfold f_X2_count at h
  refine lv_aload_n hx hb dX2_count_0 rfl (lv_at hl 0 rfl) ?_
  refine va_get (D := D) (ci := 2) (v := .int (y 10 0)) (C := RX2) (T := TX2) (N := 14) hx hb hts in_X2_count_X2 hown hK hP 0 rfl rfl 10 (by decide) (hts (.fieldLink RX2 48 "TermLoom$TypeTable" "count" "I") (by decide +kernel)) (fun _ h9 => h9) rfl dX2_count_1 ?_
  obtain ⟨rfl, rfl⟩ := so h
  exact ret_i C0 hP hD hS dX2_count_4

theorem in_X2_head_X2 : ∀ w ∈ u_ws RX2 TX2 14, w ∈ wsX2_head := by decide +kernel
def f_X2_head (N : Nat) (y : St) (x1 : Int32) : Option (Int32 × St) := (f_X4_read N 8000 (y 0) x1).bind (fun q1 => some (q1.1, y))
set_option maxHeartbeats 4000000 in
set_option maxRecDepth 100000 in
theorem c_X2_head (l : Launch) (D : va_G) (cI cZ : ClassId) (a2 : Nat → Nat) (N : Nat) (y : St) (x1 : Int32) : MI l yX2_head wsX2_head ({ frames := 1, cells := 0, slots := 0, locals := 21 } : Room) D cI cZ (wX2 a2 cI cZ) [.ref (a2 0), .int x1] y (f_X2_head N y x1) := by
  refine MI.of (cc := cX2_head) (maxL := 2) (ret := (some .int)) (own := RX2) (by decide) rfl rfl (Nat.le_of_ble_eq_true rfl) ?_
  intro r u1 h p e s m args below meth c A C0 H locs ls hP hD hS hl
  obtain ⟨hx, hb, hml, hr, hown, hts, hlocks, hA, hK, hN⟩ := id C0
  have hl : lv_has ls 2 [(0, .ref (a2 0)), (1, .int x1)] := hl
  unfold f_X2_head at h
  refine lv_aload_n hx hb dX2_head_0 rfl (lv_at hl 0 rfl) ?_
  refine va_get (D := D) (ci := 2) (v := .ref (a2 1)) (C := RX2) (T := TX2) (N := 14) hx hb hts in_X2_head_X2 hown hK hP 0 rfl rfl 0 (by decide) (hts (.fieldLink RX2 9 "TermLoom$TypeTable" "heads" "[I") (by decide +kernel)) (fun _ h9 => h9) rfl dX2_head_1 ?_
  refine lv_iload_n hx hb dX2_head_4 rfl (lv_at hl 1 rfl) ?_
  obtain ⟨q1, hq1, h⟩ := ob h
  refine mc_i (ws' := wX2 a2 cI cZ y) (wr := ((wX2 a2 cI cZ y).eraseIdx 1)) [1] [0, 2, 3, 4, 5, 6, 7, 8, 9, 10] [0, 10, 1, 2, 3, 4, 5, 6, 7, 8, 9] (va_runSN (As := [.ref (a2 1), .int x1]) (rest := []) ⟨hx, hb, hml, hown, hts⟩ (c_X4_read l D cI cZ (a2 1) 8000 (y 0) N x1 q1.1 q1.2 hq1 H.size) ⟨va_cnB 2 hts gX2_head_X4_read_n52 rfl rfl rfl (nw_X2_52 hN) (hts (.initialized RX4) (by decide +kernel)) (by decide +kernel) ⟨Nat.le_of_ble_eq_true rfl, Nat.le_of_ble_eq_true rfl⟩, hts (.static yX4_read) (by decide +kernel), trivial⟩ (pS [1] hP hD hK hN rfl rfl) rfl rfl hl.1 rfl (lv_room (Nat.le_of_ble_eq_true rfl)) dX2_head_5 ⟨Nat.le_of_ble_eq_true rfl, Nat.le_of_ble_eq_true rfl⟩) hP hD hS hA rfl rfl rfl (by decide) rfl rfl (fun H locs hP hD hS => ?_)
  obtain ⟨rfl, rfl⟩ := so h
  exact ret_i C0 hP hD hS dX2_head_8

theorem in_X2_first_X2 : ∀ w ∈ u_ws RX2 TX2 14, w ∈ wsX2_first := by decide +kernel
def f_X2_first (N : Nat) (y : St) (x1 : Int32) : Option (Int32 × St) := (f_X4_read N 8000 (y 1) x1).bind (fun q1 => some (q1.1, y))
set_option maxHeartbeats 4000000 in
set_option maxRecDepth 100000 in
theorem c_X2_first (l : Launch) (D : va_G) (cI cZ : ClassId) (a2 : Nat → Nat) (N : Nat) (y : St) (x1 : Int32) : MI l yX2_first wsX2_first ({ frames := 1, cells := 0, slots := 0, locals := 21 } : Room) D cI cZ (wX2 a2 cI cZ) [.ref (a2 0), .int x1] y (f_X2_first N y x1) := by
  refine MI.of (cc := cX2_first) (maxL := 2) (ret := (some .int)) (own := RX2) (by decide) rfl rfl (Nat.le_of_ble_eq_true rfl) ?_
  intro r u1 h p e s m args below meth c A C0 H locs ls hP hD hS hl
  obtain ⟨hx, hb, hml, hr, hown, hts, hlocks, hA, hK, hN⟩ := id C0
  have hl : lv_has ls 2 [(0, .ref (a2 0)), (1, .int x1)] := hl
  unfold f_X2_first at h
  refine lv_aload_n hx hb dX2_first_0 rfl (lv_at hl 0 rfl) ?_
  refine va_get (D := D) (ci := 2) (v := .ref (a2 2)) (C := RX2) (T := TX2) (N := 14) hx hb hts in_X2_first_X2 hown hK hP 0 rfl rfl 1 (by decide) (hts (.fieldLink RX2 15 "TermLoom$TypeTable" "firsts" "[I") (by decide +kernel)) (fun _ h9 => h9) rfl dX2_first_1 ?_
  refine lv_iload_n hx hb dX2_first_4 rfl (lv_at hl 1 rfl) ?_
  obtain ⟨q1, hq1, h⟩ := ob h
  refine mc_i (ws' := wX2 a2 cI cZ y) (wr := ((wX2 a2 cI cZ y).eraseIdx 2)) [2] [0, 1, 3, 4, 5, 6, 7, 8, 9, 10] [0, 1, 10, 2, 3, 4, 5, 6, 7, 8, 9] (va_runSN (As := [.ref (a2 2), .int x1]) (rest := []) ⟨hx, hb, hml, hown, hts⟩ (c_X4_read l D cI cZ (a2 2) 8000 (y 1) N x1 q1.1 q1.2 hq1 H.size) ⟨va_cnB 2 hts gX2_first_X4_read_n52 rfl rfl rfl (nw_X2_52 hN) (hts (.initialized RX4) (by decide +kernel)) (by decide +kernel) ⟨Nat.le_of_ble_eq_true rfl, Nat.le_of_ble_eq_true rfl⟩, hts (.static yX4_read) (by decide +kernel), trivial⟩ (pS [2] hP hD hK hN rfl rfl) rfl rfl hl.1 rfl (lv_room (Nat.le_of_ble_eq_true rfl)) dX2_first_5 ⟨Nat.le_of_ble_eq_true rfl, Nat.le_of_ble_eq_true rfl⟩) hP hD hS hA rfl rfl rfl (by decide) rfl rfl (fun H locs hP hD hS => ?_)
  obtain ⟨rfl, rfl⟩ := so h
  exact ret_i C0 hP hD hS dX2_first_8

theorem in_X2_second_X2 : ∀ w ∈ u_ws RX2 TX2 14, w ∈ wsX2_second := by decide +kernel
def f_X2_second (N : Nat) (y : St) (x1 : Int32) : Option (Int32 × St) := (f_X4_read N 8000 (y 2) x1).bind (fun q1 => some (q1.1, y))
set_option maxHeartbeats 4000000 in
set_option maxRecDepth 100000 in
theorem c_X2_second (l : Launch) (D : va_G) (cI cZ : ClassId) (a2 : Nat → Nat) (N : Nat) (y : St) (x1 : Int32) : MI l yX2_second wsX2_second ({ frames := 1, cells := 0, slots := 0, locals := 21 } : Room) D cI cZ (wX2 a2 cI cZ) [.ref (a2 0), .int x1] y (f_X2_second N y x1) := by
  refine MI.of (cc := cX2_second) (maxL := 2) (ret := (some .int)) (own := RX2) (by decide) rfl rfl (Nat.le_of_ble_eq_true rfl) ?_
  intro r u1 h p e s m args below meth c A C0 H locs ls hP hD hS hl
  obtain ⟨hx, hb, hml, hr, hown, hts, hlocks, hA, hK, hN⟩ := id C0
  have hl : lv_has ls 2 [(0, .ref (a2 0)), (1, .int x1)] := hl
  unfold f_X2_second at h
  refine lv_aload_n hx hb dX2_second_0 rfl (lv_at hl 0 rfl) ?_
  refine va_get (D := D) (ci := 2) (v := .ref (a2 3)) (C := RX2) (T := TX2) (N := 14) hx hb hts in_X2_second_X2 hown hK hP 0 rfl rfl 2 (by decide) (hts (.fieldLink RX2 18 "TermLoom$TypeTable" "seconds" "[I") (by decide +kernel)) (fun _ h9 => h9) rfl dX2_second_1 ?_
  refine lv_iload_n hx hb dX2_second_4 rfl (lv_at hl 1 rfl) ?_
  obtain ⟨q1, hq1, h⟩ := ob h
  refine mc_i (ws' := wX2 a2 cI cZ y) (wr := ((wX2 a2 cI cZ y).eraseIdx 3)) [3] [0, 1, 2, 4, 5, 6, 7, 8, 9, 10] [0, 1, 2, 10, 3, 4, 5, 6, 7, 8, 9] (va_runSN (As := [.ref (a2 3), .int x1]) (rest := []) ⟨hx, hb, hml, hown, hts⟩ (c_X4_read l D cI cZ (a2 3) 8000 (y 2) N x1 q1.1 q1.2 hq1 H.size) ⟨va_cnB 2 hts gX2_second_X4_read_n52 rfl rfl rfl (nw_X2_52 hN) (hts (.initialized RX4) (by decide +kernel)) (by decide +kernel) ⟨Nat.le_of_ble_eq_true rfl, Nat.le_of_ble_eq_true rfl⟩, hts (.static yX4_read) (by decide +kernel), trivial⟩ (pS [3] hP hD hK hN rfl rfl) rfl rfl hl.1 rfl (lv_room (Nat.le_of_ble_eq_true rfl)) dX2_second_5 ⟨Nat.le_of_ble_eq_true rfl, Nat.le_of_ble_eq_true rfl⟩) hP hD hS hA rfl rfl rfl (by decide) rfl rfl (fun H locs hP hD hS => ?_)
  obtain ⟨rfl, rfl⟩ := so h
  exact ret_i C0 hP hD hS dX2_second_8

theorem in_X2_symbols_X2 : ∀ w ∈ u_ws RX2 TX2 14, w ∈ wsX2_symbols := by decide +kernel
def f_X2_symbols_17 (N : Nat) (y : St) (s0 : Int32) : Option (Int32 × St) := some (s0, y)
def f_X2_symbols (N : Nat) (y : St) (x1 : Int32) : Option (Int32 × St) := if x1 = (-1) then f_X2_symbols_17 N y 0 else (f_X4_read N 8000 (y 3) x1).bind (fun q2 => f_X2_symbols_17 N y q2.1)
abbrev KP_X2_symbols_17 (p : Program) (l : Launch) (e : Env) (s : State) (m : MethodId) (args : Array Value) (below : List Frame) (meth : Method) (c : Code) (D : va_G) (cI cZ : ClassId) (a2 : Nat → Nat) (A : Nat → Prop) (r : Int32) (u1 : St) (K : St → Int32 → Option (Int32 × St)) : Prop := ∀ (y : St) (s0 : Int32) (H : Heap) (locs : List Loc) (ls : Array Slot), va_P D vwCl (wX2 a2 cI cZ y) H → va_D A (wX2 a2 cI cZ y) → va_S A s.heap H locs → lv_has ls 2 [] → K y s0 = some (r, u1) → W p l e ({ frames := 1, cells := 0, slots := 0, locals := 21 } : Room) s m args below meth c H locs 0 0 (QI below args s D cI cZ (wX2 a2 cI cZ) A r u1) (F0 m 17 ls [.int s0])
set_option maxHeartbeats 4000000 in
set_option maxRecDepth 100000 in
theorem k_X2_symbols_17 {p : Program} {l : Launch} {e : Env} {s : State} {m : MethodId} {args : Array Value} {below : List Frame} {meth : Method} {c : Code} {D : va_G} {cI cZ : ClassId} {a2 : Nat → Nat} {A : Nat → Prop} {r : Int32} {u1 : St} (C0 : mB p s m args meth c D cI cZ A cX2_symbols 2 (some .int) wsX2_symbols RX2) (N : Nat) : KP_X2_symbols_17 p l e s m args below meth c D cI cZ a2 A r u1 (f_X2_symbols_17 N) := by
  obtain ⟨hx, hb, hml, hr, hown, hts, hlocks, hA, hK, hN⟩ := id C0
  intro y s0 H locs ls hP hD hS hl h
  unfold f_X2_symbols_17 at h
  obtain ⟨rfl, rfl⟩ := so h
  exact ret_i C0 hP hD hS dX2_symbols_17
set_option maxHeartbeats 4000000 in
set_option maxRecDepth 100000 in
theorem c_X2_symbols (l : Launch) (D : va_G) (cI cZ : ClassId) (a2 : Nat → Nat) (N : Nat) (y : St) (x1 : Int32) : MI l yX2_symbols wsX2_symbols ({ frames := 1, cells := 0, slots := 0, locals := 21 } : Room) D cI cZ (wX2 a2 cI cZ) [.ref (a2 0), .int x1] y (f_X2_symbols N y x1) := by
  refine MI.of (cc := cX2_symbols) (maxL := 2) (ret := (some .int)) (own := RX2) (by decide) rfl rfl (Nat.le_of_ble_eq_true rfl) ?_
  intro r u1 h p e s m args below meth c A C0 H locs ls hP hD hS hl
  obtain ⟨hx, hb, hml, hr, hown, hts, hlocks, hA, hK, hN⟩ := id C0
  have hl : lv_has ls 2 [(0, .ref (a2 0)), (1, .int x1)] := hl
  unfold f_X2_symbols at h
  refine lv_iload_n hx hb dX2_symbols_0 rfl (lv_at hl 1 rfl) ?_
  refine lv_iconst (v := (-1)) hx hb dX2_symbols_1 rfl ?_
  refine lv_icmp_ne (tgt := 9) hx hb dX2_symbols_2 (by decide) (fun hc1 => ?_) (fun hc1 => ?_)
  · rw [if_neg hc1] at h
    refine lv_aload_n hx hb dX2_symbols_9 rfl (lv_at hl 0 rfl) ?_
    refine va_get (D := D) (ci := 2) (v := .ref (a2 4)) (C := RX2) (T := TX2) (N := 14) hx hb hts in_X2_symbols_X2 hown hK hP 0 rfl rfl 3 (by decide) (hts (.fieldLink RX2 21 "TermLoom$TypeTable" "symbols" "[I") (by decide +kernel)) (fun _ h9 => h9) rfl dX2_symbols_10 ?_
    refine lv_iload_n hx hb dX2_symbols_13 rfl (lv_at hl 1 rfl) ?_
    obtain ⟨q2, hq2, h⟩ := ob h
    refine mc_i (ws' := wX2 a2 cI cZ y) (wr := ((wX2 a2 cI cZ y).eraseIdx 4)) [4] [0, 1, 2, 3, 5, 6, 7, 8, 9, 10] [0, 1, 2, 3, 10, 4, 5, 6, 7, 8, 9] (va_runSN (As := [.ref (a2 4), .int x1]) (rest := []) ⟨hx, hb, hml, hown, hts⟩ (c_X4_read l D cI cZ (a2 4) 8000 (y 3) N x1 q2.1 q2.2 hq2 H.size) ⟨va_cnB 2 hts gX2_symbols_X4_read_n52 rfl rfl rfl (nw_X2_52 hN) (hts (.initialized RX4) (by decide +kernel)) (by decide +kernel) ⟨Nat.le_of_ble_eq_true rfl, Nat.le_of_ble_eq_true rfl⟩, hts (.static yX4_read) (by decide +kernel), trivial⟩ (pS [4] hP hD hK hN rfl rfl) rfl rfl hl.1 rfl (lv_room (Nat.le_of_ble_eq_true rfl)) dX2_symbols_14 ⟨Nat.le_of_ble_eq_true rfl, Nat.le_of_ble_eq_true rfl⟩) hP hD hS hA rfl rfl rfl (by decide) rfl rfl (fun H locs hP hD hS => ?_)
    exact k_X2_symbols_17 C0 N y q2.1 _ _ _ hP hD hS (lv_sub hl [] rfl) h
  · rw [if_pos hc1] at h
    refine lv_iconst (v := 0) hx hb dX2_symbols_5 rfl ?_
    refine lv_goto (tgt := 17) hx hb dX2_symbols_6 (by decide) ?_
    exact k_X2_symbols_17 C0 N y 0 _ _ _ hP hD hS (lv_sub hl [] rfl) h

theorem in_X2_height_X2 : ∀ w ∈ u_ws RX2 TX2 14, w ∈ wsX2_height := by decide +kernel
def f_X2_height_17 (N : Nat) (y : St) (s0 : Int32) : Option (Int32 × St) := some (s0, y)
def f_X2_height (N : Nat) (y : St) (x1 : Int32) : Option (Int32 × St) := if x1 = (-1) then f_X2_height_17 N y 0 else (f_X4_read N 8000 (y 4) x1).bind (fun q2 => f_X2_height_17 N y q2.1)
abbrev KP_X2_height_17 (p : Program) (l : Launch) (e : Env) (s : State) (m : MethodId) (args : Array Value) (below : List Frame) (meth : Method) (c : Code) (D : va_G) (cI cZ : ClassId) (a2 : Nat → Nat) (A : Nat → Prop) (r : Int32) (u1 : St) (K : St → Int32 → Option (Int32 × St)) : Prop := ∀ (y : St) (s0 : Int32) (H : Heap) (locs : List Loc) (ls : Array Slot), va_P D vwCl (wX2 a2 cI cZ y) H → va_D A (wX2 a2 cI cZ y) → va_S A s.heap H locs → lv_has ls 2 [] → K y s0 = some (r, u1) → W p l e ({ frames := 1, cells := 0, slots := 0, locals := 21 } : Room) s m args below meth c H locs 0 0 (QI below args s D cI cZ (wX2 a2 cI cZ) A r u1) (F0 m 17 ls [.int s0])
set_option maxHeartbeats 4000000 in
set_option maxRecDepth 100000 in
theorem k_X2_height_17 {p : Program} {l : Launch} {e : Env} {s : State} {m : MethodId} {args : Array Value} {below : List Frame} {meth : Method} {c : Code} {D : va_G} {cI cZ : ClassId} {a2 : Nat → Nat} {A : Nat → Prop} {r : Int32} {u1 : St} (C0 : mB p s m args meth c D cI cZ A cX2_height 2 (some .int) wsX2_height RX2) (N : Nat) : KP_X2_height_17 p l e s m args below meth c D cI cZ a2 A r u1 (f_X2_height_17 N) := by
  obtain ⟨hx, hb, hml, hr, hown, hts, hlocks, hA, hK, hN⟩ := id C0
  intro y s0 H locs ls hP hD hS hl h
  unfold f_X2_height_17 at h
  obtain ⟨rfl, rfl⟩ := so h
  exact ret_i C0 hP hD hS dX2_height_17
set_option maxHeartbeats 4000000 in
set_option maxRecDepth 100000 in
theorem c_X2_height (l : Launch) (D : va_G) (cI cZ : ClassId) (a2 : Nat → Nat) (N : Nat) (y : St) (x1 : Int32) : MI l yX2_height wsX2_height ({ frames := 1, cells := 0, slots := 0, locals := 21 } : Room) D cI cZ (wX2 a2 cI cZ) [.ref (a2 0), .int x1] y (f_X2_height N y x1) := by
  refine MI.of (cc := cX2_height) (maxL := 2) (ret := (some .int)) (own := RX2) (by decide) rfl rfl (Nat.le_of_ble_eq_true rfl) ?_
  intro r u1 h p e s m args below meth c A C0 H locs ls hP hD hS hl
  obtain ⟨hx, hb, hml, hr, hown, hts, hlocks, hA, hK, hN⟩ := id C0
  have hl : lv_has ls 2 [(0, .ref (a2 0)), (1, .int x1)] := hl
  unfold f_X2_height at h
  refine lv_iload_n hx hb dX2_height_0 rfl (lv_at hl 1 rfl) ?_
  refine lv_iconst (v := (-1)) hx hb dX2_height_1 rfl ?_
  refine lv_icmp_ne (tgt := 9) hx hb dX2_height_2 (by decide) (fun hc1 => ?_) (fun hc1 => ?_)
  · rw [if_neg hc1] at h
    refine lv_aload_n hx hb dX2_height_9 rfl (lv_at hl 0 rfl) ?_
    refine va_get (D := D) (ci := 2) (v := .ref (a2 5)) (C := RX2) (T := TX2) (N := 14) hx hb hts in_X2_height_X2 hown hK hP 0 rfl rfl 4 (by decide) (hts (.fieldLink RX2 24 "TermLoom$TypeTable" "heights" "[I") (by decide +kernel)) (fun _ h9 => h9) rfl dX2_height_10 ?_
    refine lv_iload_n hx hb dX2_height_13 rfl (lv_at hl 1 rfl) ?_
    obtain ⟨q2, hq2, h⟩ := ob h
    refine mc_i (ws' := wX2 a2 cI cZ y) (wr := ((wX2 a2 cI cZ y).eraseIdx 5)) [5] [0, 1, 2, 3, 4, 6, 7, 8, 9, 10] [0, 1, 2, 3, 4, 10, 5, 6, 7, 8, 9] (va_runSN (As := [.ref (a2 5), .int x1]) (rest := []) ⟨hx, hb, hml, hown, hts⟩ (c_X4_read l D cI cZ (a2 5) 8000 (y 4) N x1 q2.1 q2.2 hq2 H.size) ⟨va_cnB 2 hts gX2_height_X4_read_n52 rfl rfl rfl (nw_X2_52 hN) (hts (.initialized RX4) (by decide +kernel)) (by decide +kernel) ⟨Nat.le_of_ble_eq_true rfl, Nat.le_of_ble_eq_true rfl⟩, hts (.static yX4_read) (by decide +kernel), trivial⟩ (pS [5] hP hD hK hN rfl rfl) rfl rfl hl.1 rfl (lv_room (Nat.le_of_ble_eq_true rfl)) dX2_height_14 ⟨Nat.le_of_ble_eq_true rfl, Nat.le_of_ble_eq_true rfl⟩) hP hD hS hA rfl rfl rfl (by decide) rfl rfl (fun H locs hP hD hS => ?_)
    exact k_X2_height_17 C0 N y q2.1 _ _ _ hP hD hS (lv_sub hl [] rfl) h
  · rw [if_pos hc1] at h
    refine lv_iconst (v := 0) hx hb dX2_height_5 rfl ?_
    refine lv_goto (tgt := 17) hx hb dX2_height_6 (by decide) ?_
    exact k_X2_height_17 C0 N y 0 _ _ _ hP hD hS (lv_sub hl [] rfl) h

theorem in_X2_behind_X2 : ∀ w ∈ u_ws RX2 TX2 14, w ∈ wsX2_behind := by decide +kernel
def f_X2_behind_24 (N : Nat) (y : St) (s0 : Int32) : Option (Int32 × St) := some (s0, y)
def f_X2_behind_23 (N : Nat) (y : St) : Option (Int32 × St) := f_X2_behind_24 N y (-1)
def f_X2_behind (N : Nat) (y : St) (x1 : Int32) : Option (Int32 × St) := if x1 < 0 then f_X2_behind_23 N y else if (y 12 0) ≤ x1 then f_X2_behind_23 N y else (f_X4_read N 512 (y 9) x1).bind (fun q3 => f_X2_behind_24 N y q3.1)
abbrev KP_X2_behind_24 (p : Program) (l : Launch) (e : Env) (s : State) (m : MethodId) (args : Array Value) (below : List Frame) (meth : Method) (c : Code) (D : va_G) (cI cZ : ClassId) (a2 : Nat → Nat) (A : Nat → Prop) (r : Int32) (u1 : St) (K : St → Int32 → Option (Int32 × St)) : Prop := ∀ (y : St) (s0 : Int32) (H : Heap) (locs : List Loc) (ls : Array Slot), va_P D vwCl (wX2 a2 cI cZ y) H → va_D A (wX2 a2 cI cZ y) → va_S A s.heap H locs → lv_has ls 2 [] → K y s0 = some (r, u1) → W p l e ({ frames := 1, cells := 0, slots := 0, locals := 21 } : Room) s m args below meth c H locs 0 0 (QI below args s D cI cZ (wX2 a2 cI cZ) A r u1) (F0 m 24 ls [.int s0])
abbrev KP_X2_behind_23 (p : Program) (l : Launch) (e : Env) (s : State) (m : MethodId) (args : Array Value) (below : List Frame) (meth : Method) (c : Code) (D : va_G) (cI cZ : ClassId) (a2 : Nat → Nat) (A : Nat → Prop) (r : Int32) (u1 : St) (K : St → Option (Int32 × St)) : Prop := ∀ (y : St) (H : Heap) (locs : List Loc) (ls : Array Slot), va_P D vwCl (wX2 a2 cI cZ y) H → va_D A (wX2 a2 cI cZ y) → va_S A s.heap H locs → lv_has ls 2 [] → K y = some (r, u1) → W p l e ({ frames := 1, cells := 0, slots := 0, locals := 21 } : Room) s m args below meth c H locs 0 0 (QI below args s D cI cZ (wX2 a2 cI cZ) A r u1) (F0 m 23 ls [])
set_option maxHeartbeats 4000000 in
set_option maxRecDepth 100000 in
theorem k_X2_behind_24 {p : Program} {l : Launch} {e : Env} {s : State} {m : MethodId} {args : Array Value} {below : List Frame} {meth : Method} {c : Code} {D : va_G} {cI cZ : ClassId} {a2 : Nat → Nat} {A : Nat → Prop} {r : Int32} {u1 : St} (C0 : mB p s m args meth c D cI cZ A cX2_behind 2 (some .int) wsX2_behind RX2) (N : Nat) : KP_X2_behind_24 p l e s m args below meth c D cI cZ a2 A r u1 (f_X2_behind_24 N) := by
  obtain ⟨hx, hb, hml, hr, hown, hts, hlocks, hA, hK, hN⟩ := id C0
  intro y s0 H locs ls hP hD hS hl h
  unfold f_X2_behind_24 at h
  obtain ⟨rfl, rfl⟩ := so h
  exact ret_i C0 hP hD hS dX2_behind_24
set_option maxHeartbeats 4000000 in
set_option maxRecDepth 100000 in
theorem k_X2_behind_23 {p : Program} {l : Launch} {e : Env} {s : State} {m : MethodId} {args : Array Value} {below : List Frame} {meth : Method} {c : Code} {D : va_G} {cI cZ : ClassId} {a2 : Nat → Nat} {A : Nat → Prop} {r : Int32} {u1 : St} (C0 : mB p s m args meth c D cI cZ A cX2_behind 2 (some .int) wsX2_behind RX2) (N : Nat) : KP_X2_behind_23 p l e s m args below meth c D cI cZ a2 A r u1 (f_X2_behind_23 N) := by
  obtain ⟨hx, hb, hml, hr, hown, hts, hlocks, hA, hK, hN⟩ := id C0
  intro y H locs ls hP hD hS hl h
  unfold f_X2_behind_23 at h
  refine lv_iconst (v := (-1)) hx hb dX2_behind_23 rfl ?_
  exact k_X2_behind_24 C0 N y (-1) _ _ _ hP hD hS (lv_sub hl [] rfl) h
set_option maxHeartbeats 4000000 in
set_option maxRecDepth 100000 in
theorem c_X2_behind (l : Launch) (D : va_G) (cI cZ : ClassId) (a2 : Nat → Nat) (N : Nat) (y : St) (x1 : Int32) : MI l yX2_behind wsX2_behind ({ frames := 1, cells := 0, slots := 0, locals := 21 } : Room) D cI cZ (wX2 a2 cI cZ) [.ref (a2 0), .int x1] y (f_X2_behind N y x1) := by
  refine MI.of (cc := cX2_behind) (maxL := 2) (ret := (some .int)) (own := RX2) (by decide) rfl rfl (Nat.le_of_ble_eq_true rfl) ?_
  intro r u1 h p e s m args below meth c A C0 H locs ls hP hD hS hl
  obtain ⟨hx, hb, hml, hr, hown, hts, hlocks, hA, hK, hN⟩ := id C0
  have hl : lv_has ls 2 [(0, .ref (a2 0)), (1, .int x1)] := hl
  unfold f_X2_behind at h
  refine lv_iload_n hx hb dX2_behind_0 rfl (lv_at hl 1 rfl) ?_
  refine lv_if_lt (tgt := 23) hx hb dX2_behind_1 (by decide) (fun hc1 => ?_) (fun hc1 => ?_)
  · rw [if_pos hc1] at h
    exact k_X2_behind_23 C0 N y _ _ _ hP hD hS (lv_sub hl [] rfl) h
  · rw [if_neg hc1] at h
    refine lv_iload_n hx hb dX2_behind_4 rfl (lv_at hl 1 rfl) ?_
    refine lv_aload_n hx hb dX2_behind_5 rfl (lv_at hl 0 rfl) ?_
    refine va_get (D := D) (ci := 2) (v := .int (y 12 0)) (C := RX2) (T := TX2) (N := 14) hx hb hts in_X2_behind_X2 hown hK hP 0 rfl rfl 12 (by decide) (hts (.fieldLink RX2 56 "TermLoom$TypeTable" "handleCount" "I") (by decide +kernel)) (fun _ h9 => h9) rfl dX2_behind_6 ?_
    refine lv_icmp_ge (tgt := 23) hx hb dX2_behind_9 (by decide) (fun hc2 => ?_) (fun hc2 => ?_)
    · rw [if_pos hc2] at h
      exact k_X2_behind_23 C0 N y _ _ _ hP hD hS (lv_sub hl [] rfl) h
    · rw [if_neg hc2] at h
      refine lv_aload_n hx hb dX2_behind_12 rfl (lv_at hl 0 rfl) ?_
      refine va_get (D := D) (ci := 2) (v := .ref (a2 10)) (C := RX2) (T := TX2) (N := 14) hx hb hts in_X2_behind_X2 hown hK hP 0 rfl rfl 9 (by decide) (hts (.fieldLink RX2 39 "TermLoom$TypeTable" "handles" "[I") (by decide +kernel)) (fun _ h9 => h9) rfl dX2_behind_13 ?_
      refine lv_iload_n hx hb dX2_behind_16 rfl (lv_at hl 1 rfl) ?_
      obtain ⟨q3, hq3, h⟩ := ob h
      refine mc_i (ws' := wX2 a2 cI cZ y) (wr := ((wX2 a2 cI cZ y).eraseIdx 10)) [10] [0, 1, 2, 3, 4, 5, 6, 7, 8, 9] [0, 1, 2, 3, 4, 5, 6, 7, 8, 9, 10] (va_runSN (As := [.ref (a2 10), .int x1]) (rest := []) ⟨hx, hb, hml, hown, hts⟩ (c_X4_read l D cI cZ (a2 10) 512 (y 9) N x1 q3.1 q3.2 hq3 H.size) ⟨va_cnB 2 hts gX2_behind_X4_read_n52 rfl rfl rfl (nw_X2_52 hN) (hts (.initialized RX4) (by decide +kernel)) (by decide +kernel) ⟨Nat.le_of_ble_eq_true rfl, Nat.le_of_ble_eq_true rfl⟩, hts (.static yX4_read) (by decide +kernel), trivial⟩ (pS [10] hP hD hK hN rfl rfl) rfl rfl hl.1 rfl (lv_room (Nat.le_of_ble_eq_true rfl)) dX2_behind_17 ⟨Nat.le_of_ble_eq_true rfl, Nat.le_of_ble_eq_true rfl⟩) hP hD hS hA rfl rfl rfl (by decide) rfl rfl (fun H locs hP hD hS => ?_)
      refine lv_goto (tgt := 24) hx hb dX2_behind_20 (by decide) ?_
      exact k_X2_behind_24 C0 N y q3.1 _ _ _ hP hD hS (lv_sub hl [] rfl) h

theorem in_X2_keep_X2 : ∀ w ∈ u_ws RX2 TX2 14, w ∈ wsX2_keep := by decide +kernel
def f_X2_keep_22 (N : Nat) (y : St) : Option (Int32 × St) := some ((-1), y)
def f_X2_keep (N : Nat) (y : St) (x1 : Int32) : Option (Int32 × St) := if x1 = (-1) then f_X2_keep_22 N y else if (y 12 0) < 0 then f_X2_keep_22 N y else if (y 12 0) < 512 then (f_X2_symbols N y x1).bind (fun q4 => if ((y 13 0) + q4.1) ≤ 6000 then if (q4.2 12 0) < 0 ∨ 512 ≤ ((q4.2 12 0)).toNatClampNeg then none else bnd (up2 q4.2 9 ((q4.2 12 0)).toNatClampNeg x1) (fun y6 => bnd (up2 y6 12 0 ((y6 12 0) + 1)) (fun y7 => (f_X2_symbols N y7 x1).bind (fun q8 => bnd (up2 q8.2 13 0 ((y7 13 0) + q8.1)) (fun y9 => some (((y9 12 0) - 1), y9))))) else some ((-1), q4.2)) else f_X2_keep_22 N y
abbrev KP_X2_keep_22 (p : Program) (l : Launch) (e : Env) (s : State) (m : MethodId) (args : Array Value) (below : List Frame) (meth : Method) (c : Code) (D : va_G) (cI cZ : ClassId) (a2 : Nat → Nat) (A : Nat → Prop) (r : Int32) (u1 : St) (K : St → Option (Int32 × St)) : Prop := ∀ (y : St) (H : Heap) (locs : List Loc) (ls : Array Slot), va_P D vwCl (wX2 a2 cI cZ y) H → va_D A (wX2 a2 cI cZ y) → va_S A s.heap H locs → lv_has ls 2 [] → K y = some (r, u1) → W p l e ({ frames := 2, cells := 0, slots := 0, locals := 42 } : Room) s m args below meth c H locs 0 0 (QI below args s D cI cZ (wX2 a2 cI cZ) A r u1) (F0 m 22 ls [])
set_option maxHeartbeats 4000000 in
set_option maxRecDepth 100000 in
theorem k_X2_keep_22 {p : Program} {l : Launch} {e : Env} {s : State} {m : MethodId} {args : Array Value} {below : List Frame} {meth : Method} {c : Code} {D : va_G} {cI cZ : ClassId} {a2 : Nat → Nat} {A : Nat → Prop} {r : Int32} {u1 : St} (C0 : mB p s m args meth c D cI cZ A cX2_keep 2 (some .int) wsX2_keep RX2) (N : Nat) : KP_X2_keep_22 p l e s m args below meth c D cI cZ a2 A r u1 (f_X2_keep_22 N) := by
  obtain ⟨hx, hb, hml, hr, hown, hts, hlocks, hA, hK, hN⟩ := id C0
  intro y H locs ls hP hD hS hl h
  unfold f_X2_keep_22 at h
  refine lv_iconst (v := (-1)) hx hb dX2_keep_22 rfl ?_
  obtain ⟨rfl, rfl⟩ := so h
  exact ret_i C0 hP hD hS dX2_keep_23
set_option maxHeartbeats 4000000 in
set_option maxRecDepth 100000 in
theorem c_X2_keep (l : Launch) (D : va_G) (cI cZ : ClassId) (a2 : Nat → Nat) (N : Nat) (y : St) (x1 : Int32) : MI l yX2_keep wsX2_keep ({ frames := 2, cells := 0, slots := 0, locals := 42 } : Room) D cI cZ (wX2 a2 cI cZ) [.ref (a2 0), .int x1] y (f_X2_keep N y x1) := by
  refine MI.of (cc := cX2_keep) (maxL := 2) (ret := (some .int)) (own := RX2) (by decide) rfl rfl (Nat.le_of_ble_eq_true rfl) ?_
  intro r u1 h p e s m args below meth c A C0 H locs ls hP hD hS hl
  obtain ⟨hx, hb, hml, hr, hown, hts, hlocks, hA, hK, hN⟩ := id C0
  have hl : lv_has ls 2 [(0, .ref (a2 0)), (1, .int x1)] := hl
  unfold f_X2_keep at h
  refine lv_iload_n hx hb dX2_keep_0 rfl (lv_at hl 1 rfl) ?_
  refine lv_iconst (v := (-1)) hx hb dX2_keep_1 rfl ?_
  refine lv_icmp_eq (tgt := 22) hx hb dX2_keep_2 (by decide) (fun hc1 => ?_) (fun hc1 => ?_)
  · rw [if_pos hc1] at h
    exact k_X2_keep_22 C0 N y _ _ _ hP hD hS (lv_sub hl [] rfl) h
  · rw [if_neg hc1] at h
    refine lv_aload_n hx hb dX2_keep_5 rfl (lv_at hl 0 rfl) ?_
    refine va_get (D := D) (ci := 2) (v := .int (y 12 0)) (C := RX2) (T := TX2) (N := 14) hx hb hts in_X2_keep_X2 hown hK hP 0 rfl rfl 12 (by decide) (hts (.fieldLink RX2 56 "TermLoom$TypeTable" "handleCount" "I") (by decide +kernel)) (fun _ h9 => h9) rfl dX2_keep_6 ?_
    refine lv_if_lt (tgt := 22) hx hb dX2_keep_9 (by decide) (fun hc2 => ?_) (fun hc2 => ?_)
    · rw [if_pos hc2] at h
      exact k_X2_keep_22 C0 N y _ _ _ hP hD hS (lv_sub hl [] rfl) h
    · rw [if_neg hc2] at h
      refine lv_aload_n hx hb dX2_keep_12 rfl (lv_at hl 0 rfl) ?_
      refine va_get (D := D) (ci := 2) (v := .int (y 12 0)) (C := RX2) (T := TX2) (N := 14) hx hb hts in_X2_keep_X2 hown hK hP 0 rfl rfl 12 (by decide) (hts (.fieldLink RX2 56 "TermLoom$TypeTable" "handleCount" "I") (by decide +kernel)) (fun _ h9 => h9) rfl dX2_keep_13 ?_
      refine lv_sipush (v := 512) hx hb dX2_keep_16 rfl ?_
      refine lv_icmp_lt (tgt := 24) hx hb dX2_keep_19 (by decide) (fun hc3 => ?_) (fun hc3 => ?_)
      · rw [if_pos hc3] at h
        refine lv_aload_n hx hb dX2_keep_24 rfl (lv_at hl 0 rfl) ?_
        refine va_get (D := D) (ci := 2) (v := .int (y 13 0)) (C := RX2) (T := TX2) (N := 14) hx hb hts in_X2_keep_X2 hown hK hP 0 rfl rfl 13 (by decide) (hts (.fieldLink RX2 59 "TermLoom$TypeTable" "symbolsTogether" "I") (by decide +kernel)) (fun _ h9 => h9) rfl dX2_keep_25 ?_
        refine lv_aload_n hx hb dX2_keep_28 rfl (lv_at hl 0 rfl) ?_
        refine lv_iload_n hx hb dX2_keep_29 rfl (lv_at hl 1 rfl) ?_
        obtain ⟨q4, hq4, h⟩ := ob h
        refine mc_i (ws' := wX2 a2 cI cZ q4.2) (wr := ([] : va_W)) [0, 1, 2, 3, 4, 5, 6, 7, 8, 9, 10] [] [0, 1, 2, 3, 4, 5, 6, 7, 8, 9, 10] (va_runV (As := [.int x1]) (rest := [.int (y 13 0)]) ⟨hx, hb, hml, hown, hts⟩ (c_X2_symbols l D cI cZ a2 N y x1 q4.1 q4.2 hq4 H.size) (cwV 1 hts gX2_keep_X2_symbols rfl rfl rfl (by decide +kernel) ⟨Nat.le_of_ble_eq_true rfl, Nat.le_of_ble_eq_true rfl⟩) (pV [0, 1, 2, 3, 4, 5, 6, 7, 8, 9, 10] hP hD hK hN rfl rfl rfl rfl) rfl rfl hl.1 rfl (lv_room (Nat.le_of_ble_eq_true rfl)) dX2_keep_30 ⟨Nat.le_of_ble_eq_true rfl, Nat.le_of_ble_eq_true rfl⟩) hP hD hS hA rfl rfl rfl (by decide) rfl rfl (fun H locs hP hD hS => ?_)
        refine lv_iadd hx hb dX2_keep_33 ?_
        refine lv_sipush (v := 6000) hx hb dX2_keep_34 rfl ?_
        refine lv_icmp_le (tgt := 42) hx hb dX2_keep_37 (by decide) (fun hc5 => ?_) (fun hc5 => ?_)
        · rw [if_pos hc5] at h
          refine lv_aload_n hx hb dX2_keep_42 rfl (lv_at hl 0 rfl) ?_
          refine va_get (D := D) (ci := 2) (v := .ref (a2 10)) (C := RX2) (T := TX2) (N := 14) hx hb hts in_X2_keep_X2 hown hK hP 0 rfl rfl 9 (by decide) (hts (.fieldLink RX2 39 "TermLoom$TypeTable" "handles" "[I") (by decide +kernel)) (fun _ h9 => h9) rfl dX2_keep_43 ?_
          refine lv_aload_n hx hb dX2_keep_46 rfl (lv_at hl 0 rfl) ?_
          refine va_get (D := D) (ci := 2) (v := .int (q4.2 12 0)) (C := RX2) (T := TX2) (N := 14) hx hb hts in_X2_keep_X2 hown hK hP 0 rfl rfl 12 (by decide) (hts (.fieldLink RX2 56 "TermLoom$TypeTable" "handleCount" "I") (by decide +kernel)) (fun _ h9 => h9) rfl dX2_keep_47 ?_
          refine lv_iload_n hx hb dX2_keep_50 rfl (lv_at hl 1 rfl) ?_
          by_cases hi : (q4.2 12 0) < 0 ∨ 512 ≤ ((q4.2 12 0)).toNatClampNeg
          · rw [if_pos hi] at h; exact no h
          rw [if_neg hi] at h
          refine va_iast (f := (q4.2 9)) hx hb hK hP hD hS 10 0 rfl rfl (i := (q4.2 12 0)) (x := x1) hi dX2_keep_51 (fun H locs hP hD hS => ?_)
          obtain ⟨y6, ey6, h⟩ := bn h
          have hP : va_P D vwCl (wX2 a2 cI cZ y6) H := by rw [ey6]; exact hP
          have hD : va_D A (wX2 a2 cI cZ y6) := by rw [ey6]; exact hD
          refine lv_aload_n hx hb dX2_keep_52 rfl (lv_at hl 0 rfl) ?_
          refine lv_dup hx hb dX2_keep_53 rfl ?_
          refine va_get (D := D) (ci := 2) (v := .int (y6 12 0)) (C := RX2) (T := TX2) (N := 14) hx hb hts in_X2_keep_X2 hown hK hP 0 rfl rfl 12 (by decide) (hts (.fieldLink RX2 56 "TermLoom$TypeTable" "handleCount" "I") (by decide +kernel)) (fun _ h9 => h9) rfl dX2_keep_54 ?_
          refine lv_iconst (v := 1) hx hb dX2_keep_57 rfl ?_
          refine lv_iadd hx hb dX2_keep_58 ?_
          refine va_put (D := D) (ci := 2) (v := .int ((y6 12 0) + 1)) (ty := .int) (C := RX2) (T := TX2) (N := 14) hx hb hts in_X2_keep_X2 tyX2 tyX2_ok nmX2 hown hK hP hD hS 0 rfl rfl 12 (by decide) (hts (.fieldLink RX2 56 "TermLoom$TypeTable" "handleCount" "I") (by decide +kernel)) (fun _ h9 => h9) rfl (by decide +kernel) rfl rfl (Nat.le_of_ble_eq_true rfl) dX2_keep_59 (fun H locs hP hD hS => ?_)
          obtain ⟨y7, ey7, h⟩ := bn h
          have hP : va_P D vwCl (wX2 a2 cI cZ y7) H := by rw [ey7]; exact hP
          have hD : va_D A (wX2 a2 cI cZ y7) := by rw [ey7]; exact hD
          refine lv_aload_n hx hb dX2_keep_62 rfl (lv_at hl 0 rfl) ?_
          refine lv_dup hx hb dX2_keep_63 rfl ?_
          refine va_get (D := D) (ci := 2) (v := .int (y7 13 0)) (C := RX2) (T := TX2) (N := 14) hx hb hts in_X2_keep_X2 hown hK hP 0 rfl rfl 13 (by decide) (hts (.fieldLink RX2 59 "TermLoom$TypeTable" "symbolsTogether" "I") (by decide +kernel)) (fun _ h9 => h9) rfl dX2_keep_64 ?_
          refine lv_aload_n hx hb dX2_keep_67 rfl (lv_at hl 0 rfl) ?_
          refine lv_iload_n hx hb dX2_keep_68 rfl (lv_at hl 1 rfl) ?_
          obtain ⟨q8, hq8, h⟩ := ob h
          refine mc_i (ws' := wX2 a2 cI cZ q8.2) (wr := ([] : va_W)) [0, 1, 2, 3, 4, 5, 6, 7, 8, 9, 10] [] [0, 1, 2, 3, 4, 5, 6, 7, 8, 9, 10] (va_runV (As := [.int x1]) (rest := [.int (y7 13 0), .ref (a2 0)]) ⟨hx, hb, hml, hown, hts⟩ (c_X2_symbols l D cI cZ a2 N y7 x1 q8.1 q8.2 hq8 H.size) (cwV 1 hts gX2_keep_X2_symbols rfl rfl rfl (by decide +kernel) ⟨Nat.le_of_ble_eq_true rfl, Nat.le_of_ble_eq_true rfl⟩) (pV [0, 1, 2, 3, 4, 5, 6, 7, 8, 9, 10] hP hD hK hN rfl rfl rfl rfl) rfl rfl hl.1 rfl (lv_room (Nat.le_of_ble_eq_true rfl)) dX2_keep_69 ⟨Nat.le_of_ble_eq_true rfl, Nat.le_of_ble_eq_true rfl⟩) hP hD hS hA rfl rfl rfl (by decide) rfl rfl (fun H locs hP hD hS => ?_)
          refine lv_iadd hx hb dX2_keep_72 ?_
          refine va_put (D := D) (ci := 2) (v := .int ((y7 13 0) + q8.1)) (ty := .int) (C := RX2) (T := TX2) (N := 14) hx hb hts in_X2_keep_X2 tyX2 tyX2_ok nmX2 hown hK hP hD hS 0 rfl rfl 13 (by decide) (hts (.fieldLink RX2 59 "TermLoom$TypeTable" "symbolsTogether" "I") (by decide +kernel)) (fun _ h9 => h9) rfl (by decide +kernel) rfl rfl (Nat.le_of_ble_eq_true rfl) dX2_keep_73 (fun H locs hP hD hS => ?_)
          obtain ⟨y9, ey9, h⟩ := bn h
          have hP : va_P D vwCl (wX2 a2 cI cZ y9) H := by rw [ey9]; exact hP
          have hD : va_D A (wX2 a2 cI cZ y9) := by rw [ey9]; exact hD
          refine lv_aload_n hx hb dX2_keep_76 rfl (lv_at hl 0 rfl) ?_
          refine va_get (D := D) (ci := 2) (v := .int (y9 12 0)) (C := RX2) (T := TX2) (N := 14) hx hb hts in_X2_keep_X2 hown hK hP 0 rfl rfl 12 (by decide) (hts (.fieldLink RX2 56 "TermLoom$TypeTable" "handleCount" "I") (by decide +kernel)) (fun _ h9 => h9) rfl dX2_keep_77 ?_
          refine lv_iconst (v := 1) hx hb dX2_keep_80 rfl ?_
          refine lv_isub hx hb dX2_keep_81 ?_
          obtain ⟨rfl, rfl⟩ := so h
          exact ret_i C0 hP hD hS dX2_keep_82
        · rw [if_neg hc5] at h
          refine lv_iconst (v := (-1)) hx hb dX2_keep_40 rfl ?_
          obtain ⟨rfl, rfl⟩ := so h
          exact ret_i C0 hP hD hS dX2_keep_41
      · rw [if_neg hc3] at h
        exact k_X2_keep_22 C0 N y _ _ _ hP hD hS (lv_sub hl [] rfl) h

def f_X2_headAt_91 (N : Nat) (y : St) (x3 : Int32) : Option (Int32 × St) := (f_X2_head N y x3).bind (fun q1 => some (q1.1, q1.2))
def f_X2_headAt_84 (N : Nat) (k8 : St → Int32 → Int32 → Int32 → Option (Int32 × St)) (y : St) (x4 x5 s0 : Int32) : Option (Int32 × St) := k8 y s0 x4 (x5 + 1)
def f_X2_headAt_64 (N : Nat) (k8 : St → Int32 → Int32 → Int32 → Option (Int32 × St)) (y : St) (x3 x5 x7 s0 : Int32) : Option (Int32 × St) := if x7 = 0 then (f_X2_second N y x3).bind (fun q2 => f_X2_headAt_84 N k8 q2.2 s0 x5 q2.1) else (f_X2_first N y x3).bind (fun q3 => f_X2_headAt_84 N k8 q3.2 s0 x5 q3.1)
def f_X2_headAt_43 (N : Nat) (k8 : St → Int32 → Int32 → Int32 → Option (Int32 × St)) (y : St) (x3 x4 x5 x6 s0 : Int32) : Option (Int32 × St) := if s0 = 0 then f_X2_headAt_64 N k8 y x3 x5 s0 ((x4 - 1) - x6) else f_X2_headAt_64 N k8 y x3 x5 s0 (x4 - 1)
def f_X2_headAt_8 (N : Nat) : Nat → St → Int32 → Int32 → Int32 → Option (Int32 × St)
  | 0, _, _, _, _ => none
  | n + 1, y, x3, x4, x5 => if 24 ≤ x5 then f_X2_headAt_91 N y x3 else if x4 ≤ 0 then f_X2_headAt_91 N y x3 else (f_X2_first N y x3).bind (fun q3 => (f_X2_symbols N q3.2 q3.1).bind (fun q4 => if q4.1 < x4 then f_X2_headAt_43 N (f_X2_headAt_8 N n) q4.2 x3 x4 x5 q4.1 0 else f_X2_headAt_43 N (f_X2_headAt_8 N n) q4.2 x3 x4 x5 q4.1 1))
def f_X2_headAt (N : Nat) (y : St) (x1 x2 : Int32) : Option (Int32 × St) := f_X2_headAt_8 N N y x1 x2 0
abbrev KP_X2_headAt_91 (p : Program) (l : Launch) (e : Env) (s : State) (m : MethodId) (args : Array Value) (below : List Frame) (meth : Method) (c : Code) (D : va_G) (cI cZ : ClassId) (a2 : Nat → Nat) (A : Nat → Prop) (r : Int32) (u1 : St) (K : St → Int32 → Option (Int32 × St)) : Prop := ∀ (y : St) (x3 : Int32) (H : Heap) (locs : List Loc) (ls : Array Slot), va_P D vwCl (wX2 a2 cI cZ y) H → va_D A (wX2 a2 cI cZ y) → va_S A s.heap H locs → lv_has ls 8 [(0, .ref (a2 0)), (3, .int x3)] → K y x3 = some (r, u1) → W p l e ({ frames := 2, cells := 0, slots := 0, locals := 42 } : Room) s m args below meth c H locs 0 0 (QI below args s D cI cZ (wX2 a2 cI cZ) A r u1) (F0 m 91 ls [])
abbrev KP_X2_headAt_84 (p : Program) (l : Launch) (e : Env) (s : State) (m : MethodId) (args : Array Value) (below : List Frame) (meth : Method) (c : Code) (D : va_G) (cI cZ : ClassId) (a2 : Nat → Nat) (A : Nat → Prop) (r : Int32) (u1 : St) (K : St → Int32 → Int32 → Int32 → Option (Int32 × St)) : Prop := ∀ (y : St) (x4 x5 s0 : Int32) (H : Heap) (locs : List Loc) (ls : Array Slot), va_P D vwCl (wX2 a2 cI cZ y) H → va_D A (wX2 a2 cI cZ y) → va_S A s.heap H locs → lv_has ls 8 [(0, .ref (a2 0)), (4, .int x4), (5, .int x5)] → K y x4 x5 s0 = some (r, u1) → W p l e ({ frames := 2, cells := 0, slots := 0, locals := 42 } : Room) s m args below meth c H locs 0 0 (QI below args s D cI cZ (wX2 a2 cI cZ) A r u1) (F0 m 84 ls [.int s0])
abbrev KP_X2_headAt_64 (p : Program) (l : Launch) (e : Env) (s : State) (m : MethodId) (args : Array Value) (below : List Frame) (meth : Method) (c : Code) (D : va_G) (cI cZ : ClassId) (a2 : Nat → Nat) (A : Nat → Prop) (r : Int32) (u1 : St) (K : St → Int32 → Int32 → Int32 → Int32 → Option (Int32 × St)) : Prop := ∀ (y : St) (x3 x5 x7 s0 : Int32) (H : Heap) (locs : List Loc) (ls : Array Slot), va_P D vwCl (wX2 a2 cI cZ y) H → va_D A (wX2 a2 cI cZ y) → va_S A s.heap H locs → lv_has ls 8 [(0, .ref (a2 0)), (3, .int x3), (5, .int x5), (7, .int x7)] → K y x3 x5 x7 s0 = some (r, u1) → W p l e ({ frames := 2, cells := 0, slots := 0, locals := 42 } : Room) s m args below meth c H locs 0 0 (QI below args s D cI cZ (wX2 a2 cI cZ) A r u1) (F0 m 64 ls [.int s0])
abbrev KP_X2_headAt_43 (p : Program) (l : Launch) (e : Env) (s : State) (m : MethodId) (args : Array Value) (below : List Frame) (meth : Method) (c : Code) (D : va_G) (cI cZ : ClassId) (a2 : Nat → Nat) (A : Nat → Prop) (r : Int32) (u1 : St) (K : St → Int32 → Int32 → Int32 → Int32 → Int32 → Option (Int32 × St)) : Prop := ∀ (y : St) (x3 x4 x5 x6 s0 : Int32) (H : Heap) (locs : List Loc) (ls : Array Slot), va_P D vwCl (wX2 a2 cI cZ y) H → va_D A (wX2 a2 cI cZ y) → va_S A s.heap H locs → lv_has ls 8 [(0, .ref (a2 0)), (3, .int x3), (4, .int x4), (5, .int x5), (6, .int x6)] → K y x3 x4 x5 x6 s0 = some (r, u1) → W p l e ({ frames := 2, cells := 0, slots := 0, locals := 42 } : Room) s m args below meth c H locs 0 0 (QI below args s D cI cZ (wX2 a2 cI cZ) A r u1) (F0 m 43 ls [.int s0])
abbrev KP_X2_headAt_8 (p : Program) (l : Launch) (e : Env) (s : State) (m : MethodId) (args : Array Value) (below : List Frame) (meth : Method) (c : Code) (D : va_G) (cI cZ : ClassId) (a2 : Nat → Nat) (A : Nat → Prop) (r : Int32) (u1 : St) (K : St → Int32 → Int32 → Int32 → Option (Int32 × St)) : Prop := ∀ (y : St) (x3 x4 x5 : Int32) (H : Heap) (locs : List Loc) (ls : Array Slot), va_P D vwCl (wX2 a2 cI cZ y) H → va_D A (wX2 a2 cI cZ y) → va_S A s.heap H locs → lv_has ls 8 [(0, .ref (a2 0)), (3, .int x3), (4, .int x4), (5, .int x5)] → K y x3 x4 x5 = some (r, u1) → W p l e ({ frames := 2, cells := 0, slots := 0, locals := 42 } : Room) s m args below meth c H locs 0 0 (QI below args s D cI cZ (wX2 a2 cI cZ) A r u1) (F0 m 8 ls [])
set_option maxHeartbeats 4000000 in
set_option maxRecDepth 100000 in
theorem k_X2_headAt_91 {p : Program} {l : Launch} {e : Env} {s : State} {m : MethodId} {args : Array Value} {below : List Frame} {meth : Method} {c : Code} {D : va_G} {cI cZ : ClassId} {a2 : Nat → Nat} {A : Nat → Prop} {r : Int32} {u1 : St} (C0 : mB p s m args meth c D cI cZ A cX2_headAt 8 (some .int) wsX2_headAt RX2) (N : Nat) : KP_X2_headAt_91 p l e s m args below meth c D cI cZ a2 A r u1 (f_X2_headAt_91 N) := by
  obtain ⟨hx, hb, hml, hr, hown, hts, hlocks, hA, hK, hN⟩ := id C0
  intro y x3 H locs ls hP hD hS hl h
  unfold f_X2_headAt_91 at h
  refine lv_aload_n hx hb dX2_headAt_91 rfl (lv_at hl 0 rfl) ?_
  refine lv_iload_n hx hb dX2_headAt_92 rfl (lv_at hl 1 rfl) ?_
  obtain ⟨q1, hq1, h⟩ := ob h
  refine mc_i (ws' := wX2 a2 cI cZ q1.2) (wr := ([] : va_W)) [0, 1, 2, 3, 4, 5, 6, 7, 8, 9, 10] [] [0, 1, 2, 3, 4, 5, 6, 7, 8, 9, 10] (va_runV (As := [.int x3]) (rest := []) ⟨hx, hb, hml, hown, hts⟩ (c_X2_head l D cI cZ a2 N y x3 q1.1 q1.2 hq1 H.size) (cwV 1 hts gX2_headAt_X2_head rfl rfl rfl (by decide +kernel) ⟨Nat.le_of_ble_eq_true rfl, Nat.le_of_ble_eq_true rfl⟩) (pV [0, 1, 2, 3, 4, 5, 6, 7, 8, 9, 10] hP hD hK hN rfl rfl rfl rfl) rfl rfl hl.1 rfl (lv_room (Nat.le_of_ble_eq_true rfl)) dX2_headAt_93 ⟨Nat.le_of_ble_eq_true rfl, Nat.le_of_ble_eq_true rfl⟩) hP hD hS hA rfl rfl rfl (by decide) rfl rfl (fun H locs hP hD hS => ?_)
  obtain ⟨rfl, rfl⟩ := so h
  exact ret_i C0 hP hD hS dX2_headAt_96
set_option maxHeartbeats 4000000 in
set_option maxRecDepth 100000 in
theorem k_X2_headAt_84 {p : Program} {l : Launch} {e : Env} {s : State} {m : MethodId} {args : Array Value} {below : List Frame} {meth : Method} {c : Code} {D : va_G} {cI cZ : ClassId} {a2 : Nat → Nat} {A : Nat → Prop} {r : Int32} {u1 : St} (C0 : mB p s m args meth c D cI cZ A cX2_headAt 8 (some .int) wsX2_headAt RX2) (N : Nat) (k8 : St → Int32 → Int32 → Int32 → Option (Int32 × St)) (hk8 : KP_X2_headAt_8 p l e s m args below meth c D cI cZ a2 A r u1 k8) : KP_X2_headAt_84 p l e s m args below meth c D cI cZ a2 A r u1 (f_X2_headAt_84 N k8) := by
  obtain ⟨hx, hb, hml, hr, hown, hts, hlocks, hA, hK, hN⟩ := id C0
  intro y x4 x5 s0 H locs ls hP hD hS hl h
  unfold f_X2_headAt_84 at h
  refine lv_istore_n (lv' := [(3, .int s0), (0, .ref (a2 0)), (4, .int x4), (5, .int x5)]) hx hb dX2_headAt_84 rfl hl (by decide) rfl (fun ls hl => ?_)
  refine lv_iinc (v := (x5 + 1)) (lv' := [(5, .int (x5 + 1)), (3, .int s0), (0, .ref (a2 0)), (4, .int x4)]) hx hb dX2_headAt_85 hl (k := 3) rfl rfl (by decide) rfl (fun ls hl => ?_)
  refine lv_goto (tgt := 8) hx hb dX2_headAt_88 (by decide) ?_
  exact hk8 y s0 x4 (x5 + 1) _ _ _ hP hD hS (lv_sub hl [2, 1, 3, 0] rfl) h
set_option maxHeartbeats 4000000 in
set_option maxRecDepth 100000 in
theorem k_X2_headAt_64 {p : Program} {l : Launch} {e : Env} {s : State} {m : MethodId} {args : Array Value} {below : List Frame} {meth : Method} {c : Code} {D : va_G} {cI cZ : ClassId} {a2 : Nat → Nat} {A : Nat → Prop} {r : Int32} {u1 : St} (C0 : mB p s m args meth c D cI cZ A cX2_headAt 8 (some .int) wsX2_headAt RX2) (N : Nat) (k8 : St → Int32 → Int32 → Int32 → Option (Int32 × St)) (hk8 : KP_X2_headAt_8 p l e s m args below meth c D cI cZ a2 A r u1 k8) : KP_X2_headAt_64 p l e s m args below meth c D cI cZ a2 A r u1 (f_X2_headAt_64 N k8) := by
  obtain ⟨hx, hb, hml, hr, hown, hts, hlocks, hA, hK, hN⟩ := id C0
  intro y x3 x5 x7 s0 H locs ls hP hD hS hl h
  unfold f_X2_headAt_64 at h
  refine lv_istore (lv' := [(4, .int s0), (0, .ref (a2 0)), (3, .int x3), (5, .int x5), (7, .int x7)]) hx hb dX2_headAt_64 hl (by decide) rfl (fun ls hl => ?_)
  refine lv_iload hx hb dX2_headAt_66 (lv_at hl 4 rfl) ?_
  refine lv_if_eq (tgt := 79) hx hb dX2_headAt_68 (by decide) (fun hc1 => ?_) (fun hc1 => ?_)
  · rw [if_pos hc1] at h
    refine lv_aload_n hx hb dX2_headAt_79 rfl (lv_at hl 1 rfl) ?_
    refine lv_iload_n hx hb dX2_headAt_80 rfl (lv_at hl 2 rfl) ?_
    obtain ⟨q2, hq2, h⟩ := ob h
    refine mc_i (ws' := wX2 a2 cI cZ q2.2) (wr := ([] : va_W)) [0, 1, 2, 3, 4, 5, 6, 7, 8, 9, 10] [] [0, 1, 2, 3, 4, 5, 6, 7, 8, 9, 10] (va_runV (As := [.int x3]) (rest := []) ⟨hx, hb, hml, hown, hts⟩ (c_X2_second l D cI cZ a2 N y x3 q2.1 q2.2 hq2 H.size) (cwV 1 hts gX2_headAt_X2_second rfl rfl rfl (by decide +kernel) ⟨Nat.le_of_ble_eq_true rfl, Nat.le_of_ble_eq_true rfl⟩) (pV [0, 1, 2, 3, 4, 5, 6, 7, 8, 9, 10] hP hD hK hN rfl rfl rfl rfl) rfl rfl hl.1 rfl (lv_room (Nat.le_of_ble_eq_true rfl)) dX2_headAt_81 ⟨Nat.le_of_ble_eq_true rfl, Nat.le_of_ble_eq_true rfl⟩) hP hD hS hA rfl rfl rfl (by decide) rfl rfl (fun H locs hP hD hS => ?_)
    exact k_X2_headAt_84 C0 N k8 hk8 q2.2 s0 x5 q2.1 _ _ _ hP hD hS (lv_sub hl [1, 0, 3] rfl) h
  · rw [if_neg hc1] at h
    refine lv_aload_n hx hb dX2_headAt_71 rfl (lv_at hl 1 rfl) ?_
    refine lv_iload_n hx hb dX2_headAt_72 rfl (lv_at hl 2 rfl) ?_
    obtain ⟨q3, hq3, h⟩ := ob h
    refine mc_i (ws' := wX2 a2 cI cZ q3.2) (wr := ([] : va_W)) [0, 1, 2, 3, 4, 5, 6, 7, 8, 9, 10] [] [0, 1, 2, 3, 4, 5, 6, 7, 8, 9, 10] (va_runV (As := [.int x3]) (rest := []) ⟨hx, hb, hml, hown, hts⟩ (c_X2_first l D cI cZ a2 N y x3 q3.1 q3.2 hq3 H.size) (cwV 1 hts gX2_headAt_X2_first rfl rfl rfl (by decide +kernel) ⟨Nat.le_of_ble_eq_true rfl, Nat.le_of_ble_eq_true rfl⟩) (pV [0, 1, 2, 3, 4, 5, 6, 7, 8, 9, 10] hP hD hK hN rfl rfl rfl rfl) rfl rfl hl.1 rfl (lv_room (Nat.le_of_ble_eq_true rfl)) dX2_headAt_73 ⟨Nat.le_of_ble_eq_true rfl, Nat.le_of_ble_eq_true rfl⟩) hP hD hS hA rfl rfl rfl (by decide) rfl rfl (fun H locs hP hD hS => ?_)
    refine lv_goto (tgt := 84) hx hb dX2_headAt_76 (by decide) ?_
    exact k_X2_headAt_84 C0 N k8 hk8 q3.2 s0 x5 q3.1 _ _ _ hP hD hS (lv_sub hl [1, 0, 3] rfl) h
set_option maxHeartbeats 4000000 in
set_option maxRecDepth 100000 in
theorem k_X2_headAt_43 {p : Program} {l : Launch} {e : Env} {s : State} {m : MethodId} {args : Array Value} {below : List Frame} {meth : Method} {c : Code} {D : va_G} {cI cZ : ClassId} {a2 : Nat → Nat} {A : Nat → Prop} {r : Int32} {u1 : St} (C0 : mB p s m args meth c D cI cZ A cX2_headAt 8 (some .int) wsX2_headAt RX2) (N : Nat) (k8 : St → Int32 → Int32 → Int32 → Option (Int32 × St)) (hk8 : KP_X2_headAt_8 p l e s m args below meth c D cI cZ a2 A r u1 k8) : KP_X2_headAt_43 p l e s m args below meth c D cI cZ a2 A r u1 (f_X2_headAt_43 N k8) := by
  obtain ⟨hx, hb, hml, hr, hown, hts, hlocks, hA, hK, hN⟩ := id C0
  intro y x3 x4 x5 x6 s0 H locs ls hP hD hS hl h
  unfold f_X2_headAt_43 at h
  refine lv_istore (lv' := [(7, .int s0), (0, .ref (a2 0)), (3, .int x3), (4, .int x4), (5, .int x5), (6, .int x6)]) hx hb dX2_headAt_43 hl (by decide) rfl (fun ls hl => ?_)
  refine lv_iload hx hb dX2_headAt_45 (lv_at hl 0 rfl) ?_
  refine lv_if_eq (tgt := 57) hx hb dX2_headAt_47 (by decide) (fun hc1 => ?_) (fun hc1 => ?_)
  · rw [if_pos hc1] at h
    refine lv_iload hx hb dX2_headAt_57 (lv_at hl 3 rfl) ?_
    refine lv_iconst (v := 1) hx hb dX2_headAt_59 rfl ?_
    refine lv_isub hx hb dX2_headAt_60 ?_
    refine lv_iload hx hb dX2_headAt_61 (lv_at hl 5 rfl) ?_
    refine lv_isub hx hb dX2_headAt_63 ?_
    exact k_X2_headAt_64 C0 N k8 hk8 y x3 x5 s0 ((x4 - 1) - x6) _ _ _ hP hD hS (lv_sub hl [1, 2, 4, 0] rfl) h
  · rw [if_neg hc1] at h
    refine lv_iload hx hb dX2_headAt_50 (lv_at hl 3 rfl) ?_
    refine lv_iconst (v := 1) hx hb dX2_headAt_52 rfl ?_
    refine lv_isub hx hb dX2_headAt_53 ?_
    refine lv_goto (tgt := 64) hx hb dX2_headAt_54 (by decide) ?_
    exact k_X2_headAt_64 C0 N k8 hk8 y x3 x5 s0 (x4 - 1) _ _ _ hP hD hS (lv_sub hl [1, 2, 4, 0] rfl) h
set_option maxHeartbeats 4000000 in
set_option maxRecDepth 100000 in
theorem k_X2_headAt_8 {p : Program} {l : Launch} {e : Env} {s : State} {m : MethodId} {args : Array Value} {below : List Frame} {meth : Method} {c : Code} {D : va_G} {cI cZ : ClassId} {a2 : Nat → Nat} {A : Nat → Prop} {r : Int32} {u1 : St} (C0 : mB p s m args meth c D cI cZ A cX2_headAt 8 (some .int) wsX2_headAt RX2) (N : Nat) : ∀ n : Nat, KP_X2_headAt_8 p l e s m args below meth c D cI cZ a2 A r u1 (f_X2_headAt_8 N n) := by
  obtain ⟨hx, hb, hml, hr, hown, hts, hlocks, hA, hK, hN⟩ := id C0
  intro n
  induction n with
  | zero =>
    intro y x3 x4 x5 H locs ls hP hD hS hl h
    exact no (show (none : Option (Int32 × St)) = _ from h)
  | succ n ih =>
    intro y x3 x4 x5 H locs ls hP hD hS hl h
    rw [f_X2_headAt_8] at h
    refine lv_iload hx hb dX2_headAt_8 (lv_at hl 3 rfl) ?_
    refine lv_bipush (v := 24) hx hb dX2_headAt_10 rfl ?_
    refine lv_icmp_ge (tgt := 91) hx hb dX2_headAt_12 (by decide) (fun hc1 => ?_) (fun hc1 => ?_)
    · rw [if_pos hc1] at h
      exact k_X2_headAt_91 C0 N y x3 _ _ _ hP hD hS (lv_sub hl [0, 1] rfl) h
    · rw [if_neg hc1] at h
      refine lv_iload hx hb dX2_headAt_15 (lv_at hl 2 rfl) ?_
      refine lv_if_le (tgt := 91) hx hb dX2_headAt_17 (by decide) (fun hc2 => ?_) (fun hc2 => ?_)
      · rw [if_pos hc2] at h
        exact k_X2_headAt_91 C0 N y x3 _ _ _ hP hD hS (lv_sub hl [0, 1] rfl) h
      · rw [if_neg hc2] at h
        refine lv_aload_n hx hb dX2_headAt_20 rfl (lv_at hl 0 rfl) ?_
        refine lv_aload_n hx hb dX2_headAt_21 rfl (lv_at hl 0 rfl) ?_
        refine lv_iload_n hx hb dX2_headAt_22 rfl (lv_at hl 1 rfl) ?_
        obtain ⟨q3, hq3, h⟩ := ob h
        refine mc_i (ws' := wX2 a2 cI cZ q3.2) (wr := ([] : va_W)) [0, 1, 2, 3, 4, 5, 6, 7, 8, 9, 10] [] [0, 1, 2, 3, 4, 5, 6, 7, 8, 9, 10] (va_runV (As := [.int x3]) (rest := [.ref (a2 0)]) ⟨hx, hb, hml, hown, hts⟩ (c_X2_first l D cI cZ a2 N y x3 q3.1 q3.2 hq3 H.size) (cwV 1 hts gX2_headAt_X2_first rfl rfl rfl (by decide +kernel) ⟨Nat.le_of_ble_eq_true rfl, Nat.le_of_ble_eq_true rfl⟩) (pV [0, 1, 2, 3, 4, 5, 6, 7, 8, 9, 10] hP hD hK hN rfl rfl rfl rfl) rfl rfl hl.1 rfl (lv_room (Nat.le_of_ble_eq_true rfl)) dX2_headAt_23 ⟨Nat.le_of_ble_eq_true rfl, Nat.le_of_ble_eq_true rfl⟩) hP hD hS hA rfl rfl rfl (by decide) rfl rfl (fun H locs hP hD hS => ?_)
        obtain ⟨q4, hq4, h⟩ := ob h
        refine mc_i (ws' := wX2 a2 cI cZ q4.2) (wr := ([] : va_W)) [0, 1, 2, 3, 4, 5, 6, 7, 8, 9, 10] [] [0, 1, 2, 3, 4, 5, 6, 7, 8, 9, 10] (va_runV (As := [.int q3.1]) (rest := []) ⟨hx, hb, hml, hown, hts⟩ (c_X2_symbols l D cI cZ a2 N q3.2 q3.1 q4.1 q4.2 hq4 H.size) (cwV 1 hts gX2_headAt_X2_symbols rfl rfl rfl (by decide +kernel) ⟨Nat.le_of_ble_eq_true rfl, Nat.le_of_ble_eq_true rfl⟩) (pV [0, 1, 2, 3, 4, 5, 6, 7, 8, 9, 10] hP hD hK hN rfl rfl rfl rfl) rfl rfl hl.1 rfl (lv_room (Nat.le_of_ble_eq_true rfl)) dX2_headAt_26 ⟨Nat.le_of_ble_eq_true rfl, Nat.le_of_ble_eq_true rfl⟩) hP hD hS hA rfl rfl rfl (by decide) rfl rfl (fun H locs hP hD hS => ?_)
        refine lv_istore (lv' := [(6, .int q4.1), (0, .ref (a2 0)), (3, .int x3), (4, .int x4), (5, .int x5)]) hx hb dX2_headAt_29 hl (by decide) rfl (fun ls hl => ?_)
        refine lv_iload hx hb dX2_headAt_31 (lv_at hl 3 rfl) ?_
        refine lv_iload hx hb dX2_headAt_33 (lv_at hl 0 rfl) ?_
        refine lv_icmp_gt (tgt := 42) hx hb dX2_headAt_35 (by decide) (fun hc5 => ?_) (fun hc5 => ?_)
        · rw [if_pos hc5] at h
          refine lv_iconst (v := 0) hx hb dX2_headAt_42 rfl ?_
          exact k_X2_headAt_43 C0 N (f_X2_headAt_8 N n) ih q4.2 x3 x4 x5 q4.1 0 _ _ _ hP hD hS (lv_sub hl [1, 2, 3, 4, 0] rfl) h
        · rw [if_neg hc5] at h
          refine lv_iconst (v := 1) hx hb dX2_headAt_38 rfl ?_
          refine lv_goto (tgt := 43) hx hb dX2_headAt_39 (by decide) ?_
          exact k_X2_headAt_43 C0 N (f_X2_headAt_8 N n) ih q4.2 x3 x4 x5 q4.1 1 _ _ _ hP hD hS (lv_sub hl [1, 2, 3, 4, 0] rfl) h
set_option maxHeartbeats 4000000 in
set_option maxRecDepth 100000 in
theorem c_X2_headAt (l : Launch) (D : va_G) (cI cZ : ClassId) (a2 : Nat → Nat) (N : Nat) (y : St) (x1 x2 : Int32) : MI l yX2_headAt wsX2_headAt ({ frames := 2, cells := 0, slots := 0, locals := 42 } : Room) D cI cZ (wX2 a2 cI cZ) [.ref (a2 0), .int x1, .int x2] y (f_X2_headAt N y x1 x2) := by
  refine MI.of (cc := cX2_headAt) (maxL := 8) (ret := (some .int)) (own := RX2) (by decide) rfl rfl (Nat.le_of_ble_eq_true rfl) ?_
  intro r u1 h p e s m args below meth c A C0 H locs ls hP hD hS hl
  obtain ⟨hx, hb, hml, hr, hown, hts, hlocks, hA, hK, hN⟩ := id C0
  have hl : lv_has ls 8 [(0, .ref (a2 0)), (1, .int x1), (2, .int x2)] := hl
  unfold f_X2_headAt at h
  refine lv_iload_n hx hb dX2_headAt_0 rfl (lv_at hl 1 rfl) ?_
  refine lv_istore_n (lv' := [(3, .int x1), (0, .ref (a2 0)), (1, .int x1), (2, .int x2)]) hx hb dX2_headAt_1 rfl hl (by decide) rfl (fun ls hl => ?_)
  refine lv_iload_n hx hb dX2_headAt_2 rfl (lv_at hl 3 rfl) ?_
  refine lv_istore (lv' := [(4, .int x2), (3, .int x1), (0, .ref (a2 0)), (1, .int x1), (2, .int x2)]) hx hb dX2_headAt_3 hl (by decide) rfl (fun ls hl => ?_)
  refine lv_iconst (v := 0) hx hb dX2_headAt_5 rfl ?_
  refine lv_istore (lv' := [(5, .int 0), (4, .int x2), (3, .int x1), (0, .ref (a2 0)), (1, .int x1), (2, .int x2)]) hx hb dX2_headAt_6 hl (by decide) rfl (fun ls hl => ?_)
  exact k_X2_headAt_8 C0 N N y x1 x2 0 _ _ _ hP hD hS (lv_sub hl [3, 2, 1, 0] rfl) h

def f_X2_bucketOf (N : Nat) (x0 x1 x2 : Int32) : Option (Int32 × Unit) := some (((((((x0 * 31) + x1) * 8191) + x2) ^^^ ((Int32.toUInt32 ((((x0 * 31) + x1) * 8191) + x2)) >>> ((Int32.toUInt32 12) &&& Int32.toUInt32 31)).toInt32) &&& 4095), ())
set_option maxHeartbeats 4000000 in
set_option maxRecDepth 100000 in
theorem c_X2_bucketOf (l : Launch) (D : va_G) (cI cZ : ClassId)  (N : Nat) (x0 x1 x2 : Int32) : MI l yX2_bucketOf wsX2_bucketOf ({ frames := 0, cells := 0, slots := 0, locals := 0 } : Room) D cI cZ (wNo) [.int x0, .int x1, .int x2] () (f_X2_bucketOf N x0 x1 x2) := by
  refine MI.of (cc := cX2_bucketOf) (maxL := 4) (ret := (some .int)) (own := RX2) (by decide) rfl rfl (Nat.le_of_ble_eq_true rfl) ?_
  intro r u1 h p e s m args below meth c A C0 H locs ls hP hD hS hl
  obtain ⟨hx, hb, hml, hr, hown, hts, hlocks, hA, hK, hN⟩ := id C0
  have hl : lv_has ls 4 [(0, .int x0), (1, .int x1), (2, .int x2)] := hl
  unfold f_X2_bucketOf at h
  refine lv_iload_n hx hb dX2_bucketOf_0 rfl (lv_at hl 0 rfl) ?_
  refine lv_bipush (v := 31) hx hb dX2_bucketOf_1 rfl ?_
  refine lv_imul hx hb dX2_bucketOf_3 ?_
  refine lv_iload_n hx hb dX2_bucketOf_4 rfl (lv_at hl 1 rfl) ?_
  refine lv_iadd hx hb dX2_bucketOf_5 ?_
  refine lv_sipush (v := 8191) hx hb dX2_bucketOf_6 rfl ?_
  refine lv_imul hx hb dX2_bucketOf_9 ?_
  refine lv_iload_n hx hb dX2_bucketOf_10 rfl (lv_at hl 2 rfl) ?_
  refine lv_iadd hx hb dX2_bucketOf_11 ?_
  refine lv_istore_n (lv' := [(3, .int ((((x0 * 31) + x1) * 8191) + x2)), (0, .int x0), (1, .int x1), (2, .int x2)]) hx hb dX2_bucketOf_12 rfl hl (by decide) rfl (fun ls hl => ?_)
  refine lv_iload_n hx hb dX2_bucketOf_13 rfl (lv_at hl 0 rfl) ?_
  refine lv_iload_n hx hb dX2_bucketOf_14 rfl (lv_at hl 0 rfl) ?_
  refine lv_bipush (v := 12) hx hb dX2_bucketOf_15 rfl ?_
  refine lv_iushr (v := ((Int32.toUInt32 ((((x0 * 31) + x1) * 8191) + x2)) >>> ((Int32.toUInt32 12) &&& Int32.toUInt32 31)).toInt32) hx hb dX2_bucketOf_17 rfl ?_
  refine lv_ixor hx hb dX2_bucketOf_18 ?_
  refine lv_sipush (v := 4095) hx hb dX2_bucketOf_19 rfl ?_
  refine lv_iand hx hb dX2_bucketOf_22 ?_
  obtain ⟨rfl, rfl⟩ := so h
  exact ret_i C0 hP hD hS dX2_bucketOf_23

theorem in_X2_find_X2 : ∀ w ∈ u_ws RX2 TX2 14, w ∈ wsX2_find := by decide +kernel
def f_X2_find_91 (N : Nat) (y : St) : Option (Int32 × St) := some ((-1), y)
def f_X2_find_74 (N : Nat) (k21 : St → Int32 → Int32 → Int32 → Int32 → Int32 → Option (Int32 × St)) (y : St) (x1 x2 x3 x4 x5 : Int32) : Option (Int32 × St) := (f_X4_read N 8000 (y 5) x4).bind (fun q1 => k21 y x1 x2 x3 q1.1 (x5 + (-1)))
def f_X2_find_21 (N : Nat) : Nat → St → Int32 → Int32 → Int32 → Int32 → Int32 → Option (Int32 × St)
  | 0, _, _, _, _, _, _ => none
  | n + 1, y, x1, x2, x3, x4, x5 => if x5 ≤ 0 then f_X2_find_91 N y else if x4 = (-1) then f_X2_find_91 N y else (f_X4_read N 8000 (y 0) x4).bind (fun q3 => if q3.1 = x1 then (f_X4_read N 8000 (y 1) x4).bind (fun q5 => if q5.1 = x2 then (f_X4_read N 8000 (y 2) x4).bind (fun q7 => if q7.1 = x3 then some (x4, y) else f_X2_find_74 N (f_X2_find_21 N n) y x1 x2 x3 x4 x5) else f_X2_find_74 N (f_X2_find_21 N n) y x1 x2 x3 x4 x5) else f_X2_find_74 N (f_X2_find_21 N n) y x1 x2 x3 x4 x5)
def f_X2_find (N : Nat) (y : St) (x1 x2 x3 : Int32) : Option (Int32 × St) := (f_X2_bucketOf N x1 x2 x3).bind (fun q1 => (f_X4_read N 4096 (y 6) q1.1).bind (fun q2 => f_X2_find_21 N N y x1 x2 x3 q2.1 (y 10 0)))
abbrev KP_X2_find_91 (p : Program) (l : Launch) (e : Env) (s : State) (m : MethodId) (args : Array Value) (below : List Frame) (meth : Method) (c : Code) (D : va_G) (cI cZ : ClassId) (a2 : Nat → Nat) (A : Nat → Prop) (r : Int32) (u1 : St) (K : St → Option (Int32 × St)) : Prop := ∀ (y : St) (H : Heap) (locs : List Loc) (ls : Array Slot), va_P D vwCl (wX2 a2 cI cZ y) H → va_D A (wX2 a2 cI cZ y) → va_S A s.heap H locs → lv_has ls 6 [] → K y = some (r, u1) → W p l e ({ frames := 1, cells := 0, slots := 0, locals := 23 } : Room) s m args below meth c H locs 0 0 (QI below args s D cI cZ (wX2 a2 cI cZ) A r u1) (F0 m 91 ls [])
abbrev KP_X2_find_74 (p : Program) (l : Launch) (e : Env) (s : State) (m : MethodId) (args : Array Value) (below : List Frame) (meth : Method) (c : Code) (D : va_G) (cI cZ : ClassId) (a2 : Nat → Nat) (A : Nat → Prop) (r : Int32) (u1 : St) (K : St → Int32 → Int32 → Int32 → Int32 → Int32 → Option (Int32 × St)) : Prop := ∀ (y : St) (x1 x2 x3 x4 x5 : Int32) (H : Heap) (locs : List Loc) (ls : Array Slot), va_P D vwCl (wX2 a2 cI cZ y) H → va_D A (wX2 a2 cI cZ y) → va_S A s.heap H locs → lv_has ls 6 [(0, .ref (a2 0)), (1, .int x1), (2, .int x2), (3, .int x3), (4, .int x4), (5, .int x5)] → K y x1 x2 x3 x4 x5 = some (r, u1) → W p l e ({ frames := 1, cells := 0, slots := 0, locals := 23 } : Room) s m args below meth c H locs 0 0 (QI below args s D cI cZ (wX2 a2 cI cZ) A r u1) (F0 m 74 ls [])
abbrev KP_X2_find_21 (p : Program) (l : Launch) (e : Env) (s : State) (m : MethodId) (args : Array Value) (below : List Frame) (meth : Method) (c : Code) (D : va_G) (cI cZ : ClassId) (a2 : Nat → Nat) (A : Nat → Prop) (r : Int32) (u1 : St) (K : St → Int32 → Int32 → Int32 → Int32 → Int32 → Option (Int32 × St)) : Prop := ∀ (y : St) (x1 x2 x3 x4 x5 : Int32) (H : Heap) (locs : List Loc) (ls : Array Slot), va_P D vwCl (wX2 a2 cI cZ y) H → va_D A (wX2 a2 cI cZ y) → va_S A s.heap H locs → lv_has ls 6 [(0, .ref (a2 0)), (1, .int x1), (2, .int x2), (3, .int x3), (4, .int x4), (5, .int x5)] → K y x1 x2 x3 x4 x5 = some (r, u1) → W p l e ({ frames := 1, cells := 0, slots := 0, locals := 23 } : Room) s m args below meth c H locs 0 0 (QI below args s D cI cZ (wX2 a2 cI cZ) A r u1) (F0 m 21 ls [])
set_option maxHeartbeats 4000000 in
set_option maxRecDepth 100000 in
theorem k_X2_find_91 {p : Program} {l : Launch} {e : Env} {s : State} {m : MethodId} {args : Array Value} {below : List Frame} {meth : Method} {c : Code} {D : va_G} {cI cZ : ClassId} {a2 : Nat → Nat} {A : Nat → Prop} {r : Int32} {u1 : St} (C0 : mB p s m args meth c D cI cZ A cX2_find 6 (some .int) wsX2_find RX2) (N : Nat) : KP_X2_find_91 p l e s m args below meth c D cI cZ a2 A r u1 (f_X2_find_91 N) := by
  obtain ⟨hx, hb, hml, hr, hown, hts, hlocks, hA, hK, hN⟩ := id C0
  intro y H locs ls hP hD hS hl h
  unfold f_X2_find_91 at h
  refine lv_iconst (v := (-1)) hx hb dX2_find_91 rfl ?_
  obtain ⟨rfl, rfl⟩ := so h
  exact ret_i C0 hP hD hS dX2_find_92
set_option maxHeartbeats 4000000 in
set_option maxRecDepth 100000 in
theorem k_X2_find_74 {p : Program} {l : Launch} {e : Env} {s : State} {m : MethodId} {args : Array Value} {below : List Frame} {meth : Method} {c : Code} {D : va_G} {cI cZ : ClassId} {a2 : Nat → Nat} {A : Nat → Prop} {r : Int32} {u1 : St} (C0 : mB p s m args meth c D cI cZ A cX2_find 6 (some .int) wsX2_find RX2) (N : Nat) (k21 : St → Int32 → Int32 → Int32 → Int32 → Int32 → Option (Int32 × St)) (hk21 : KP_X2_find_21 p l e s m args below meth c D cI cZ a2 A r u1 k21) : KP_X2_find_74 p l e s m args below meth c D cI cZ a2 A r u1 (f_X2_find_74 N k21) := by
  obtain ⟨hx, hb, hml, hr, hown, hts, hlocks, hA, hK, hN⟩ := id C0
  intro y x1 x2 x3 x4 x5 H locs ls hP hD hS hl h
  unfold f_X2_find_74 at h
  refine lv_aload_n hx hb dX2_find_74 rfl (lv_at hl 0 rfl) ?_
  refine va_get (D := D) (ci := 2) (v := .ref (a2 6)) (C := RX2) (T := TX2) (N := 14) hx hb hts in_X2_find_X2 hown hK hP 0 rfl rfl 5 (by decide) (hts (.fieldLink RX2 27 "TermLoom$TypeTable" "older" "[I") (by decide +kernel)) (fun _ h9 => h9) rfl dX2_find_75 ?_
  refine lv_iload hx hb dX2_find_78 (lv_at hl 4 rfl) ?_
  obtain ⟨q1, hq1, h⟩ := ob h
  refine mc_i (ws' := wX2 a2 cI cZ y) (wr := ((wX2 a2 cI cZ y).eraseIdx 6)) [6] [0, 1, 2, 3, 4, 5, 7, 8, 9, 10] [0, 1, 2, 3, 4, 5, 10, 6, 7, 8, 9] (va_runSN (As := [.ref (a2 6), .int x4]) (rest := []) ⟨hx, hb, hml, hown, hts⟩ (c_X4_read l D cI cZ (a2 6) 8000 (y 5) N x4 q1.1 q1.2 hq1 H.size) ⟨va_cnB 2 hts gX2_find_X4_read_n52 rfl rfl rfl (nw_X2_52 hN) (hts (.initialized RX4) (by decide +kernel)) (by decide +kernel) ⟨Nat.le_of_ble_eq_true rfl, Nat.le_of_ble_eq_true rfl⟩, hts (.static yX4_read) (by decide +kernel), trivial⟩ (pS [6] hP hD hK hN rfl rfl) rfl rfl hl.1 rfl (lv_room (Nat.le_of_ble_eq_true rfl)) dX2_find_80 ⟨Nat.le_of_ble_eq_true rfl, Nat.le_of_ble_eq_true rfl⟩) hP hD hS hA rfl rfl rfl (by decide) rfl rfl (fun H locs hP hD hS => ?_)
  refine lv_istore (lv' := [(4, .int q1.1), (0, .ref (a2 0)), (1, .int x1), (2, .int x2), (3, .int x3), (5, .int x5)]) hx hb dX2_find_83 hl (by decide) rfl (fun ls hl => ?_)
  refine lv_iinc (v := (x5 + (-1))) (lv' := [(5, .int (x5 + (-1))), (4, .int q1.1), (0, .ref (a2 0)), (1, .int x1), (2, .int x2), (3, .int x3)]) hx hb dX2_find_85 hl (k := 5) rfl rfl (by decide) rfl (fun ls hl => ?_)
  refine lv_goto (tgt := 21) hx hb dX2_find_88 (by decide) ?_
  exact hk21 y x1 x2 x3 q1.1 (x5 + (-1)) _ _ _ hP hD hS (lv_sub hl [2, 3, 4, 5, 1, 0] rfl) h
set_option maxHeartbeats 4000000 in
set_option maxRecDepth 100000 in
theorem k_X2_find_21 {p : Program} {l : Launch} {e : Env} {s : State} {m : MethodId} {args : Array Value} {below : List Frame} {meth : Method} {c : Code} {D : va_G} {cI cZ : ClassId} {a2 : Nat → Nat} {A : Nat → Prop} {r : Int32} {u1 : St} (C0 : mB p s m args meth c D cI cZ A cX2_find 6 (some .int) wsX2_find RX2) (N : Nat) : ∀ n : Nat, KP_X2_find_21 p l e s m args below meth c D cI cZ a2 A r u1 (f_X2_find_21 N n) := by
  obtain ⟨hx, hb, hml, hr, hown, hts, hlocks, hA, hK, hN⟩ := id C0
  intro n
  induction n with
  | zero =>
    intro y x1 x2 x3 x4 x5 H locs ls hP hD hS hl h
    exact no (show (none : Option (Int32 × St)) = _ from h)
  | succ n ih =>
    intro y x1 x2 x3 x4 x5 H locs ls hP hD hS hl h
    rw [f_X2_find_21] at h
    refine lv_iload hx hb dX2_find_21 (lv_at hl 5 rfl) ?_
    refine lv_if_le (tgt := 91) hx hb dX2_find_23 (by decide) (fun hc1 => ?_) (fun hc1 => ?_)
    · rw [if_pos hc1] at h
      exact k_X2_find_91 C0 N y _ _ _ hP hD hS (lv_sub hl [] rfl) h
    · rw [if_neg hc1] at h
      refine lv_iload hx hb dX2_find_26 (lv_at hl 4 rfl) ?_
      refine lv_iconst (v := (-1)) hx hb dX2_find_28 rfl ?_
      refine lv_icmp_eq (tgt := 91) hx hb dX2_find_29 (by decide) (fun hc2 => ?_) (fun hc2 => ?_)
      · rw [if_pos hc2] at h
        exact k_X2_find_91 C0 N y _ _ _ hP hD hS (lv_sub hl [] rfl) h
      · rw [if_neg hc2] at h
        refine lv_aload_n hx hb dX2_find_32 rfl (lv_at hl 0 rfl) ?_
        refine va_get (D := D) (ci := 2) (v := .ref (a2 1)) (C := RX2) (T := TX2) (N := 14) hx hb hts in_X2_find_X2 hown hK hP 0 rfl rfl 0 (by decide) (hts (.fieldLink RX2 9 "TermLoom$TypeTable" "heads" "[I") (by decide +kernel)) (fun _ h9 => h9) rfl dX2_find_33 ?_
        refine lv_iload hx hb dX2_find_36 (lv_at hl 4 rfl) ?_
        obtain ⟨q3, hq3, h⟩ := ob h
        refine mc_i (ws' := wX2 a2 cI cZ y) (wr := ((wX2 a2 cI cZ y).eraseIdx 1)) [1] [0, 2, 3, 4, 5, 6, 7, 8, 9, 10] [0, 10, 1, 2, 3, 4, 5, 6, 7, 8, 9] (va_runSN (As := [.ref (a2 1), .int x4]) (rest := []) ⟨hx, hb, hml, hown, hts⟩ (c_X4_read l D cI cZ (a2 1) 8000 (y 0) N x4 q3.1 q3.2 hq3 H.size) ⟨va_cnB 2 hts gX2_find_X4_read_n52 rfl rfl rfl (nw_X2_52 hN) (hts (.initialized RX4) (by decide +kernel)) (by decide +kernel) ⟨Nat.le_of_ble_eq_true rfl, Nat.le_of_ble_eq_true rfl⟩, hts (.static yX4_read) (by decide +kernel), trivial⟩ (pS [1] hP hD hK hN rfl rfl) rfl rfl hl.1 rfl (lv_room (Nat.le_of_ble_eq_true rfl)) dX2_find_38 ⟨Nat.le_of_ble_eq_true rfl, Nat.le_of_ble_eq_true rfl⟩) hP hD hS hA rfl rfl rfl (by decide) rfl rfl (fun H locs hP hD hS => ?_)
        refine lv_iload_n hx hb dX2_find_41 rfl (lv_at hl 1 rfl) ?_
        refine lv_icmp_ne (tgt := 74) hx hb dX2_find_42 (by decide) (fun hc4 => ?_) (fun hc4 => ?_)
        · rw [if_neg hc4] at h
          exact k_X2_find_74 C0 N (f_X2_find_21 N n) ih y x1 x2 x3 x4 x5 _ _ _ hP hD hS (lv_sub hl [0, 1, 2, 3, 4, 5] rfl) h
        · rw [if_pos hc4] at h
          refine lv_aload_n hx hb dX2_find_45 rfl (lv_at hl 0 rfl) ?_
          refine va_get (D := D) (ci := 2) (v := .ref (a2 2)) (C := RX2) (T := TX2) (N := 14) hx hb hts in_X2_find_X2 hown hK hP 0 rfl rfl 1 (by decide) (hts (.fieldLink RX2 15 "TermLoom$TypeTable" "firsts" "[I") (by decide +kernel)) (fun _ h9 => h9) rfl dX2_find_46 ?_
          refine lv_iload hx hb dX2_find_49 (lv_at hl 4 rfl) ?_
          obtain ⟨q5, hq5, h⟩ := ob h
          refine mc_i (ws' := wX2 a2 cI cZ y) (wr := ((wX2 a2 cI cZ y).eraseIdx 2)) [2] [0, 1, 3, 4, 5, 6, 7, 8, 9, 10] [0, 1, 10, 2, 3, 4, 5, 6, 7, 8, 9] (va_runSN (As := [.ref (a2 2), .int x4]) (rest := []) ⟨hx, hb, hml, hown, hts⟩ (c_X4_read l D cI cZ (a2 2) 8000 (y 1) N x4 q5.1 q5.2 hq5 H.size) ⟨va_cnB 2 hts gX2_find_X4_read_n52 rfl rfl rfl (nw_X2_52 hN) (hts (.initialized RX4) (by decide +kernel)) (by decide +kernel) ⟨Nat.le_of_ble_eq_true rfl, Nat.le_of_ble_eq_true rfl⟩, hts (.static yX4_read) (by decide +kernel), trivial⟩ (pS [2] hP hD hK hN rfl rfl) rfl rfl hl.1 rfl (lv_room (Nat.le_of_ble_eq_true rfl)) dX2_find_51 ⟨Nat.le_of_ble_eq_true rfl, Nat.le_of_ble_eq_true rfl⟩) hP hD hS hA rfl rfl rfl (by decide) rfl rfl (fun H locs hP hD hS => ?_)
          refine lv_iload_n hx hb dX2_find_54 rfl (lv_at hl 2 rfl) ?_
          refine lv_icmp_ne (tgt := 74) hx hb dX2_find_55 (by decide) (fun hc6 => ?_) (fun hc6 => ?_)
          · rw [if_neg hc6] at h
            exact k_X2_find_74 C0 N (f_X2_find_21 N n) ih y x1 x2 x3 x4 x5 _ _ _ hP hD hS (lv_sub hl [0, 1, 2, 3, 4, 5] rfl) h
          · rw [if_pos hc6] at h
            refine lv_aload_n hx hb dX2_find_58 rfl (lv_at hl 0 rfl) ?_
            refine va_get (D := D) (ci := 2) (v := .ref (a2 3)) (C := RX2) (T := TX2) (N := 14) hx hb hts in_X2_find_X2 hown hK hP 0 rfl rfl 2 (by decide) (hts (.fieldLink RX2 18 "TermLoom$TypeTable" "seconds" "[I") (by decide +kernel)) (fun _ h9 => h9) rfl dX2_find_59 ?_
            refine lv_iload hx hb dX2_find_62 (lv_at hl 4 rfl) ?_
            obtain ⟨q7, hq7, h⟩ := ob h
            refine mc_i (ws' := wX2 a2 cI cZ y) (wr := ((wX2 a2 cI cZ y).eraseIdx 3)) [3] [0, 1, 2, 4, 5, 6, 7, 8, 9, 10] [0, 1, 2, 10, 3, 4, 5, 6, 7, 8, 9] (va_runSN (As := [.ref (a2 3), .int x4]) (rest := []) ⟨hx, hb, hml, hown, hts⟩ (c_X4_read l D cI cZ (a2 3) 8000 (y 2) N x4 q7.1 q7.2 hq7 H.size) ⟨va_cnB 2 hts gX2_find_X4_read_n52 rfl rfl rfl (nw_X2_52 hN) (hts (.initialized RX4) (by decide +kernel)) (by decide +kernel) ⟨Nat.le_of_ble_eq_true rfl, Nat.le_of_ble_eq_true rfl⟩, hts (.static yX4_read) (by decide +kernel), trivial⟩ (pS [3] hP hD hK hN rfl rfl) rfl rfl hl.1 rfl (lv_room (Nat.le_of_ble_eq_true rfl)) dX2_find_64 ⟨Nat.le_of_ble_eq_true rfl, Nat.le_of_ble_eq_true rfl⟩) hP hD hS hA rfl rfl rfl (by decide) rfl rfl (fun H locs hP hD hS => ?_)
            refine lv_iload_n hx hb dX2_find_67 rfl (lv_at hl 3 rfl) ?_
            refine lv_icmp_ne (tgt := 74) hx hb dX2_find_68 (by decide) (fun hc8 => ?_) (fun hc8 => ?_)
            · rw [if_neg hc8] at h
              exact k_X2_find_74 C0 N (f_X2_find_21 N n) ih y x1 x2 x3 x4 x5 _ _ _ hP hD hS (lv_sub hl [0, 1, 2, 3, 4, 5] rfl) h
            · rw [if_pos hc8] at h
              refine lv_iload hx hb dX2_find_71 (lv_at hl 4 rfl) ?_
              obtain ⟨rfl, rfl⟩ := so h
              exact ret_i C0 hP hD hS dX2_find_73
set_option maxHeartbeats 4000000 in
set_option maxRecDepth 100000 in
theorem c_X2_find (l : Launch) (D : va_G) (cI cZ : ClassId) (a2 : Nat → Nat) (N : Nat) (y : St) (x1 x2 x3 : Int32) : MI l yX2_find wsX2_find ({ frames := 1, cells := 0, slots := 0, locals := 23 } : Room) D cI cZ (wX2 a2 cI cZ) [.ref (a2 0), .int x1, .int x2, .int x3] y (f_X2_find N y x1 x2 x3) := by
  refine MI.of (cc := cX2_find) (maxL := 6) (ret := (some .int)) (own := RX2) (by decide) rfl rfl (Nat.le_of_ble_eq_true rfl) ?_
  intro r u1 h p e s m args below meth c A C0 H locs ls hP hD hS hl
  obtain ⟨hx, hb, hml, hr, hown, hts, hlocks, hA, hK, hN⟩ := id C0
  have hl : lv_has ls 6 [(0, .ref (a2 0)), (1, .int x1), (2, .int x2), (3, .int x3)] := hl
  unfold f_X2_find at h
  refine lv_aload_n hx hb dX2_find_0 rfl (lv_at hl 0 rfl) ?_
  refine va_get (D := D) (ci := 2) (v := .ref (a2 7)) (C := RX2) (T := TX2) (N := 14) hx hb hts in_X2_find_X2 hown hK hP 0 rfl rfl 6 (by decide) (hts (.fieldLink RX2 30 "TermLoom$TypeTable" "buckets" "[I") (by decide +kernel)) (fun _ h9 => h9) rfl dX2_find_1 ?_
  refine lv_iload_n hx hb dX2_find_4 rfl (lv_at hl 1 rfl) ?_
  refine lv_iload_n hx hb dX2_find_5 rfl (lv_at hl 2 rfl) ?_
  refine lv_iload_n hx hb dX2_find_6 rfl (lv_at hl 3 rfl) ?_
  obtain ⟨q1, hq1, h⟩ := ob h
  refine mc_i (ws' := wX2 a2 cI cZ y) (wr := ((wX2o a2 cI cZ y) : va_W)) [] [0, 1, 2, 3, 4, 5, 6, 7, 8, 9, 10] [0, 1, 2, 3, 4, 5, 6, 7, 8, 9, 10] (va_runS (As := [.int x1, .int x2, .int x3]) (rest := [.ref (a2 7)]) ⟨hx, hb, hml, hown, hts⟩ (c_X2_bucketOf l D cI cZ N x1 x2 x3 q1.1 q1.2 hq1 H.size) (va_cwS 3 hts gX2_find_X2_bucketOf rfl rfl rfl (by decide +kernel) ⟨Nat.le_of_ble_eq_true rfl, Nat.le_of_ble_eq_true rfl⟩) (pS [] hP hD hK hN rfl rfl) rfl rfl hl.1 rfl (lv_room (Nat.le_of_ble_eq_true rfl)) dX2_find_7 ⟨Nat.le_of_ble_eq_true rfl, Nat.le_of_ble_eq_true rfl⟩) hP hD hS hA rfl rfl rfl (by decide) rfl rfl (fun H locs hP hD hS => ?_)
  obtain ⟨q2, hq2, h⟩ := ob h
  refine mc_i (ws' := wX2 a2 cI cZ y) (wr := ((wX2 a2 cI cZ y).eraseIdx 7)) [7] [0, 1, 2, 3, 4, 5, 6, 8, 9, 10] [0, 1, 2, 3, 4, 5, 6, 10, 7, 8, 9] (va_runSN (As := [.ref (a2 7), .int q1.1]) (rest := []) ⟨hx, hb, hml, hown, hts⟩ (c_X4_read l D cI cZ (a2 7) 4096 (y 6) N q1.1 q2.1 q2.2 hq2 H.size) ⟨va_cnB 2 hts gX2_find_X4_read_n52 rfl rfl rfl (nw_X2_52 hN) (hts (.initialized RX4) (by decide +kernel)) (by decide +kernel) ⟨Nat.le_of_ble_eq_true rfl, Nat.le_of_ble_eq_true rfl⟩, hts (.static yX4_read) (by decide +kernel), trivial⟩ (pS [7] hP hD hK hN rfl rfl) rfl rfl hl.1 rfl (lv_room (Nat.le_of_ble_eq_true rfl)) dX2_find_10 ⟨Nat.le_of_ble_eq_true rfl, Nat.le_of_ble_eq_true rfl⟩) hP hD hS hA rfl rfl rfl (by decide) rfl rfl (fun H locs hP hD hS => ?_)
  refine lv_istore (lv' := [(4, .int q2.1), (0, .ref (a2 0)), (1, .int x1), (2, .int x2), (3, .int x3)]) hx hb dX2_find_13 hl (by decide) rfl (fun ls hl => ?_)
  refine lv_aload_n hx hb dX2_find_15 rfl (lv_at hl 1 rfl) ?_
  refine va_get (D := D) (ci := 2) (v := .int (y 10 0)) (C := RX2) (T := TX2) (N := 14) hx hb hts in_X2_find_X2 hown hK hP 0 rfl rfl 10 (by decide) (hts (.fieldLink RX2 48 "TermLoom$TypeTable" "count" "I") (by decide +kernel)) (fun _ h9 => h9) rfl dX2_find_16 ?_
  refine lv_istore (lv' := [(5, .int (y 10 0)), (4, .int q2.1), (0, .ref (a2 0)), (1, .int x1), (2, .int x2), (3, .int x3)]) hx hb dX2_find_19 hl (by decide) rfl (fun ls hl => ?_)
  exact k_X2_find_21 C0 N N y x1 x2 x3 q2.1 (y 10 0) _ _ _ hP hD hS (lv_sub hl [2, 3, 4, 5, 1, 0] rfl) h

theorem in_X2_made_X2 : ∀ w ∈ u_ws RX2 TX2 14, w ∈ wsX2_made := by decide +kernel
def f_X2_made_47 (N : Nat) (y : St) : Option (Int32 × St) := some ((-1), y)
def f_X2_made_81 (N : Nat) (y : St) (x6 : Int32) : Option (Int32 × St) := some (x6, y)
def f_X2_made (N : Nat) (y : St) (x1 x2 x3 : Int32) : Option (Int32 × St) := (f_X2_symbols N y x2).bind (fun q1 => (f_X2_symbols N q1.2 x3).bind (fun q2 => (f_X2_height N q2.2 x2).bind (fun q3 => (f_X2_height N q3.2 x3).bind (fun q4 => if 200 < ((1 + q1.1) + q2.1) then f_X2_made_47 N q4.2 else if (1 + (if q3.1 < q4.1 then q4.1 else q3.1)) ≤ 24 then (f_X2_find N q4.2 x1 x2 x3).bind (fun q7 => if q7.1 = (-1) then if (q7.2 10 0) < 0 then f_X2_made_81 N q7.2 q7.1 else if (q7.2 10 0) < 8000 then if (q7.2 10 0) < 0 ∨ 8000 ≤ ((q7.2 10 0)).toNatClampNeg then none else bnd (up2 q7.2 0 ((q7.2 10 0)).toNatClampNeg x1) (fun y11 => if (y11 10 0) < 0 ∨ 8000 ≤ ((y11 10 0)).toNatClampNeg then none else bnd (up2 y11 1 ((y11 10 0)).toNatClampNeg x2) (fun y12 => if (y12 10 0) < 0 ∨ 8000 ≤ ((y12 10 0)).toNatClampNeg then none else bnd (up2 y12 2 ((y12 10 0)).toNatClampNeg x3) (fun y13 => if (y13 10 0) < 0 ∨ 8000 ≤ ((y13 10 0)).toNatClampNeg then none else bnd (up2 y13 3 ((y13 10 0)).toNatClampNeg ((1 + q1.1) + q2.1)) (fun y14 => if (y14 10 0) < 0 ∨ 8000 ≤ ((y14 10 0)).toNatClampNeg then none else bnd (up2 y14 4 ((y14 10 0)).toNatClampNeg (1 + (if q3.1 < q4.1 then q4.1 else q3.1))) (fun y15 => (f_X2_bucketOf N x1 x2 x3).bind (fun q16 => if q16.1 < 0 ∨ 4096 ≤ (q16.1).toNatClampNeg then none else if (y15 10 0) < 0 ∨ 8000 ≤ ((y15 10 0)).toNatClampNeg then none else bnd (up2 y15 5 ((y15 10 0)).toNatClampNeg (y15 6 (q16.1).toNatClampNeg)) (fun y17 => if q16.1 < 0 ∨ 4096 ≤ (q16.1).toNatClampNeg then none else bnd (up2 y17 6 (q16.1).toNatClampNeg (y17 10 0)) (fun y18 => bnd (up2 y18 10 0 ((y18 10 0) + 1)) (fun y19 => some (((y19 10 0) - 1), y19)))))))))) else f_X2_made_81 N q7.2 q7.1 else f_X2_made_81 N q7.2 q7.1) else f_X2_made_47 N q4.2))))
abbrev KP_X2_made_47 (p : Program) (l : Launch) (e : Env) (s : State) (m : MethodId) (args : Array Value) (below : List Frame) (meth : Method) (c : Code) (D : va_G) (cI cZ : ClassId) (a2 : Nat → Nat) (A : Nat → Prop) (r : Int32) (u1 : St) (K : St → Option (Int32 × St)) : Prop := ∀ (y : St) (H : Heap) (locs : List Loc) (ls : Array Slot), va_P D vwCl (wX2 a2 cI cZ y) H → va_D A (wX2 a2 cI cZ y) → va_S A s.heap H locs → lv_has ls 8 [] → K y = some (r, u1) → W p l e ({ frames := 2, cells := 0, slots := 0, locals := 48 } : Room) s m args below meth c H locs 0 0 (QI below args s D cI cZ (wX2 a2 cI cZ) A r u1) (F0 m 47 ls [])
abbrev KP_X2_made_81 (p : Program) (l : Launch) (e : Env) (s : State) (m : MethodId) (args : Array Value) (below : List Frame) (meth : Method) (c : Code) (D : va_G) (cI cZ : ClassId) (a2 : Nat → Nat) (A : Nat → Prop) (r : Int32) (u1 : St) (K : St → Int32 → Option (Int32 × St)) : Prop := ∀ (y : St) (x6 : Int32) (H : Heap) (locs : List Loc) (ls : Array Slot), va_P D vwCl (wX2 a2 cI cZ y) H → va_D A (wX2 a2 cI cZ y) → va_S A s.heap H locs → lv_has ls 8 [(6, .int x6)] → K y x6 = some (r, u1) → W p l e ({ frames := 2, cells := 0, slots := 0, locals := 48 } : Room) s m args below meth c H locs 0 0 (QI below args s D cI cZ (wX2 a2 cI cZ) A r u1) (F0 m 81 ls [])
set_option maxHeartbeats 4000000 in
set_option maxRecDepth 100000 in
theorem k_X2_made_47 {p : Program} {l : Launch} {e : Env} {s : State} {m : MethodId} {args : Array Value} {below : List Frame} {meth : Method} {c : Code} {D : va_G} {cI cZ : ClassId} {a2 : Nat → Nat} {A : Nat → Prop} {r : Int32} {u1 : St} (C0 : mB p s m args meth c D cI cZ A cX2_made 8 (some .int) wsX2_made RX2) (N : Nat) : KP_X2_made_47 p l e s m args below meth c D cI cZ a2 A r u1 (f_X2_made_47 N) := by
  obtain ⟨hx, hb, hml, hr, hown, hts, hlocks, hA, hK, hN⟩ := id C0
  intro y H locs ls hP hD hS hl h
  unfold f_X2_made_47 at h
  refine lv_iconst (v := (-1)) hx hb dX2_made_47 rfl ?_
  obtain ⟨rfl, rfl⟩ := so h
  exact ret_i C0 hP hD hS dX2_made_48
set_option maxHeartbeats 4000000 in
set_option maxRecDepth 100000 in
theorem k_X2_made_81 {p : Program} {l : Launch} {e : Env} {s : State} {m : MethodId} {args : Array Value} {below : List Frame} {meth : Method} {c : Code} {D : va_G} {cI cZ : ClassId} {a2 : Nat → Nat} {A : Nat → Prop} {r : Int32} {u1 : St} (C0 : mB p s m args meth c D cI cZ A cX2_made 8 (some .int) wsX2_made RX2) (N : Nat) : KP_X2_made_81 p l e s m args below meth c D cI cZ a2 A r u1 (f_X2_made_81 N) := by
  obtain ⟨hx, hb, hml, hr, hown, hts, hlocks, hA, hK, hN⟩ := id C0
  intro y x6 H locs ls hP hD hS hl h
  unfold f_X2_made_81 at h
  refine lv_iload hx hb dX2_made_81 (lv_at hl 0 rfl) ?_
  obtain ⟨rfl, rfl⟩ := so h
  exact ret_i C0 hP hD hS dX2_made_83
set_option maxHeartbeats 4000000 in
set_option maxRecDepth 100000 in
theorem c_X2_made (l : Launch) (D : va_G) (cI cZ : ClassId) (a2 : Nat → Nat) (N : Nat) (y : St) (x1 x2 x3 : Int32) : MI l yX2_made wsX2_made ({ frames := 2, cells := 0, slots := 0, locals := 48 } : Room) D cI cZ (wX2 a2 cI cZ) [.ref (a2 0), .int x1, .int x2, .int x3] y (f_X2_made N y x1 x2 x3) := by
  refine MI.of (cc := cX2_made) (maxL := 8) (ret := (some .int)) (own := RX2) (by decide) rfl rfl (Nat.le_of_ble_eq_true rfl) ?_
  intro r u1 h p e s m args below meth c A C0 H locs ls hP hD hS hl
  obtain ⟨hx, hb, hml, hr, hown, hts, hlocks, hA, hK, hN⟩ := id C0
  have hl : lv_has ls 8 [(0, .ref (a2 0)), (1, .int x1), (2, .int x2), (3, .int x3)] := hl
  unfold f_X2_made at h
  refine lv_iconst (v := 1) hx hb dX2_made_0 rfl ?_
  refine lv_aload_n hx hb dX2_made_1 rfl (lv_at hl 0 rfl) ?_
  refine lv_iload_n hx hb dX2_made_2 rfl (lv_at hl 2 rfl) ?_
  obtain ⟨q1, hq1, h⟩ := ob h
  refine mc_i (ws' := wX2 a2 cI cZ q1.2) (wr := ([] : va_W)) [0, 1, 2, 3, 4, 5, 6, 7, 8, 9, 10] [] [0, 1, 2, 3, 4, 5, 6, 7, 8, 9, 10] (va_runV (As := [.int x2]) (rest := [.int 1]) ⟨hx, hb, hml, hown, hts⟩ (c_X2_symbols l D cI cZ a2 N y x2 q1.1 q1.2 hq1 H.size) (cwV 1 hts gX2_made_X2_symbols rfl rfl rfl (by decide +kernel) ⟨Nat.le_of_ble_eq_true rfl, Nat.le_of_ble_eq_true rfl⟩) (pV [0, 1, 2, 3, 4, 5, 6, 7, 8, 9, 10] hP hD hK hN rfl rfl rfl rfl) rfl rfl hl.1 rfl (lv_room (Nat.le_of_ble_eq_true rfl)) dX2_made_3 ⟨Nat.le_of_ble_eq_true rfl, Nat.le_of_ble_eq_true rfl⟩) hP hD hS hA rfl rfl rfl (by decide) rfl rfl (fun H locs hP hD hS => ?_)
  refine lv_iadd hx hb dX2_made_6 ?_
  refine lv_aload_n hx hb dX2_made_7 rfl (lv_at hl 0 rfl) ?_
  refine lv_iload_n hx hb dX2_made_8 rfl (lv_at hl 3 rfl) ?_
  obtain ⟨q2, hq2, h⟩ := ob h
  refine mc_i (ws' := wX2 a2 cI cZ q2.2) (wr := ([] : va_W)) [0, 1, 2, 3, 4, 5, 6, 7, 8, 9, 10] [] [0, 1, 2, 3, 4, 5, 6, 7, 8, 9, 10] (va_runV (As := [.int x3]) (rest := [.int (1 + q1.1)]) ⟨hx, hb, hml, hown, hts⟩ (c_X2_symbols l D cI cZ a2 N q1.2 x3 q2.1 q2.2 hq2 H.size) (cwV 1 hts gX2_made_X2_symbols rfl rfl rfl (by decide +kernel) ⟨Nat.le_of_ble_eq_true rfl, Nat.le_of_ble_eq_true rfl⟩) (pV [0, 1, 2, 3, 4, 5, 6, 7, 8, 9, 10] hP hD hK hN rfl rfl rfl rfl) rfl rfl hl.1 rfl (lv_room (Nat.le_of_ble_eq_true rfl)) dX2_made_9 ⟨Nat.le_of_ble_eq_true rfl, Nat.le_of_ble_eq_true rfl⟩) hP hD hS hA rfl rfl rfl (by decide) rfl rfl (fun H locs hP hD hS => ?_)
  refine lv_iadd hx hb dX2_made_12 ?_
  refine lv_istore (lv' := [(4, .int ((1 + q1.1) + q2.1)), (0, .ref (a2 0)), (1, .int x1), (2, .int x2), (3, .int x3)]) hx hb dX2_made_13 hl (by decide) rfl (fun ls hl => ?_)
  refine lv_iconst (v := 1) hx hb dX2_made_15 rfl ?_
  refine lv_aload_n hx hb dX2_made_16 rfl (lv_at hl 1 rfl) ?_
  refine lv_iload_n hx hb dX2_made_17 rfl (lv_at hl 3 rfl) ?_
  obtain ⟨q3, hq3, h⟩ := ob h
  refine mc_i (ws' := wX2 a2 cI cZ q3.2) (wr := ([] : va_W)) [0, 1, 2, 3, 4, 5, 6, 7, 8, 9, 10] [] [0, 1, 2, 3, 4, 5, 6, 7, 8, 9, 10] (va_runV (As := [.int x2]) (rest := [.int 1]) ⟨hx, hb, hml, hown, hts⟩ (c_X2_height l D cI cZ a2 N q2.2 x2 q3.1 q3.2 hq3 H.size) (cwV 1 hts gX2_made_X2_height rfl rfl rfl (by decide +kernel) ⟨Nat.le_of_ble_eq_true rfl, Nat.le_of_ble_eq_true rfl⟩) (pV [0, 1, 2, 3, 4, 5, 6, 7, 8, 9, 10] hP hD hK hN rfl rfl rfl rfl) rfl rfl hl.1 rfl (lv_room (Nat.le_of_ble_eq_true rfl)) dX2_made_18 ⟨Nat.le_of_ble_eq_true rfl, Nat.le_of_ble_eq_true rfl⟩) hP hD hS hA rfl rfl rfl (by decide) rfl rfl (fun H locs hP hD hS => ?_)
  refine lv_aload_n hx hb dX2_made_21 rfl (lv_at hl 1 rfl) ?_
  refine lv_iload_n hx hb dX2_made_22 rfl (lv_at hl 4 rfl) ?_
  obtain ⟨q4, hq4, h⟩ := ob h
  refine mc_i (ws' := wX2 a2 cI cZ q4.2) (wr := ([] : va_W)) [0, 1, 2, 3, 4, 5, 6, 7, 8, 9, 10] [] [0, 1, 2, 3, 4, 5, 6, 7, 8, 9, 10] (va_runV (As := [.int x3]) (rest := [.int q3.1, .int 1]) ⟨hx, hb, hml, hown, hts⟩ (c_X2_height l D cI cZ a2 N q3.2 x3 q4.1 q4.2 hq4 H.size) (cwV 1 hts gX2_made_X2_height rfl rfl rfl (by decide +kernel) ⟨Nat.le_of_ble_eq_true rfl, Nat.le_of_ble_eq_true rfl⟩) (pV [0, 1, 2, 3, 4, 5, 6, 7, 8, 9, 10] hP hD hK hN rfl rfl rfl rfl) rfl rfl hl.1 rfl (lv_room (Nat.le_of_ble_eq_true rfl)) dX2_made_23 ⟨Nat.le_of_ble_eq_true rfl, Nat.le_of_ble_eq_true rfl⟩) hP hD hS hA rfl rfl rfl (by decide) rfl rfl (fun H locs hP hD hS => ?_)
  refine va_mmax hx hb (by rw [hml]; exact hl.1.symm) hown (hts (.methodLink RX2 81 Lib.Math.max.name) (by decide +kernel)) (hts (.static Lib.Math.max.name) (by decide +kernel)) (hts (.initialized "java/lang/Math") (by decide +kernel)) (hts (.code Lib.Math.max.name Lib.Math.max.code 2 (some .int)) (by decide +kernel)) (Nat.le_of_ble_eq_true rfl) (Nat.le_of_ble_eq_true rfl) (Nat.zero_le _) (Nat.zero_le _) dX2_made_26 ?_
  refine lv_iadd hx hb dX2_made_29 ?_
  refine lv_istore (lv' := [(5, .int (1 + (if q3.1 < q4.1 then q4.1 else q3.1))), (4, .int ((1 + q1.1) + q2.1)), (0, .ref (a2 0)), (1, .int x1), (2, .int x2), (3, .int x3)]) hx hb dX2_made_30 hl (by decide) rfl (fun ls hl => ?_)
  refine lv_iload hx hb dX2_made_32 (lv_at hl 1 rfl) ?_
  refine lv_sipush (v := 200) hx hb dX2_made_34 rfl ?_
  refine lv_icmp_gt (tgt := 47) hx hb dX2_made_37 (by decide) (fun hc5 => ?_) (fun hc5 => ?_)
  · rw [if_pos hc5] at h
    exact k_X2_made_47 C0 N q4.2 _ _ _ hP hD hS (lv_sub hl [] rfl) h
  · rw [if_neg hc5] at h
    refine lv_iload hx hb dX2_made_40 (lv_at hl 0 rfl) ?_
    refine lv_bipush (v := 24) hx hb dX2_made_42 rfl ?_
    refine lv_icmp_le (tgt := 49) hx hb dX2_made_44 (by decide) (fun hc6 => ?_) (fun hc6 => ?_)
    · rw [if_pos hc6] at h
      refine lv_aload_n hx hb dX2_made_49 rfl (lv_at hl 2 rfl) ?_
      refine lv_iload_n hx hb dX2_made_50 rfl (lv_at hl 3 rfl) ?_
      refine lv_iload_n hx hb dX2_made_51 rfl (lv_at hl 4 rfl) ?_
      refine lv_iload_n hx hb dX2_made_52 rfl (lv_at hl 5 rfl) ?_
      obtain ⟨q7, hq7, h⟩ := ob h
      refine mc_i (ws' := wX2 a2 cI cZ q7.2) (wr := ([] : va_W)) [0, 1, 2, 3, 4, 5, 6, 7, 8, 9, 10] [] [0, 1, 2, 3, 4, 5, 6, 7, 8, 9, 10] (va_runV (As := [.int x1, .int x2, .int x3]) (rest := []) ⟨hx, hb, hml, hown, hts⟩ (c_X2_find l D cI cZ a2 N q4.2 x1 x2 x3 q7.1 q7.2 hq7 H.size) (cwV 3 hts gX2_made_X2_find rfl rfl rfl (by decide +kernel) ⟨Nat.le_of_ble_eq_true rfl, Nat.le_of_ble_eq_true rfl⟩) (pV [0, 1, 2, 3, 4, 5, 6, 7, 8, 9, 10] hP hD hK hN rfl rfl rfl rfl) rfl rfl hl.1 rfl (lv_room (Nat.le_of_ble_eq_true rfl)) dX2_made_53 ⟨Nat.le_of_ble_eq_true rfl, Nat.le_of_ble_eq_true rfl⟩) hP hD hS hA rfl rfl rfl (by decide) rfl rfl (fun H locs hP hD hS => ?_)
      refine lv_istore (lv' := [(6, .int q7.1), (5, .int (1 + (if q3.1 < q4.1 then q4.1 else q3.1))), (4, .int ((1 + q1.1) + q2.1)), (0, .ref (a2 0)), (1, .int x1), (2, .int x2), (3, .int x3)]) hx hb dX2_made_56 hl (by decide) rfl (fun ls hl => ?_)
      refine lv_iload hx hb dX2_made_58 (lv_at hl 0 rfl) ?_
      refine lv_iconst (v := (-1)) hx hb dX2_made_60 rfl ?_
      refine lv_icmp_ne (tgt := 81) hx hb dX2_made_61 (by decide) (fun hc8 => ?_) (fun hc8 => ?_)
      · rw [if_neg hc8] at h
        exact k_X2_made_81 C0 N q7.2 q7.1 _ _ _ hP hD hS (lv_sub hl [0] rfl) h
      · rw [if_pos hc8] at h
        refine lv_aload_n hx hb dX2_made_64 rfl (lv_at hl 3 rfl) ?_
        refine va_get (D := D) (ci := 2) (v := .int (q7.2 10 0)) (C := RX2) (T := TX2) (N := 14) hx hb hts in_X2_made_X2 hown hK hP 0 rfl rfl 10 (by decide) (hts (.fieldLink RX2 48 "TermLoom$TypeTable" "count" "I") (by decide +kernel)) (fun _ h9 => h9) rfl dX2_made_65 ?_
        refine lv_if_lt (tgt := 81) hx hb dX2_made_68 (by decide) (fun hc9 => ?_) (fun hc9 => ?_)
        · rw [if_pos hc9] at h
          exact k_X2_made_81 C0 N q7.2 q7.1 _ _ _ hP hD hS (lv_sub hl [0] rfl) h
        · rw [if_neg hc9] at h
          refine lv_aload_n hx hb dX2_made_71 rfl (lv_at hl 3 rfl) ?_
          refine va_get (D := D) (ci := 2) (v := .int (q7.2 10 0)) (C := RX2) (T := TX2) (N := 14) hx hb hts in_X2_made_X2 hown hK hP 0 rfl rfl 10 (by decide) (hts (.fieldLink RX2 48 "TermLoom$TypeTable" "count" "I") (by decide +kernel)) (fun _ h9 => h9) rfl dX2_made_72 ?_
          refine lv_sipush (v := 8000) hx hb dX2_made_75 rfl ?_
          refine lv_icmp_lt (tgt := 84) hx hb dX2_made_78 (by decide) (fun hc10 => ?_) (fun hc10 => ?_)
          · rw [if_pos hc10] at h
            refine lv_aload_n hx hb dX2_made_84 rfl (lv_at hl 3 rfl) ?_
            refine va_get (D := D) (ci := 2) (v := .ref (a2 1)) (C := RX2) (T := TX2) (N := 14) hx hb hts in_X2_made_X2 hown hK hP 0 rfl rfl 0 (by decide) (hts (.fieldLink RX2 9 "TermLoom$TypeTable" "heads" "[I") (by decide +kernel)) (fun _ h9 => h9) rfl dX2_made_85 ?_
            refine lv_aload_n hx hb dX2_made_88 rfl (lv_at hl 3 rfl) ?_
            refine va_get (D := D) (ci := 2) (v := .int (q7.2 10 0)) (C := RX2) (T := TX2) (N := 14) hx hb hts in_X2_made_X2 hown hK hP 0 rfl rfl 10 (by decide) (hts (.fieldLink RX2 48 "TermLoom$TypeTable" "count" "I") (by decide +kernel)) (fun _ h9 => h9) rfl dX2_made_89 ?_
            refine lv_iload_n hx hb dX2_made_92 rfl (lv_at hl 4 rfl) ?_
            by_cases hi : (q7.2 10 0) < 0 ∨ 8000 ≤ ((q7.2 10 0)).toNatClampNeg
            · rw [if_pos hi] at h; exact no h
            rw [if_neg hi] at h
            refine va_iast (f := (q7.2 0)) hx hb hK hP hD hS 1 0 rfl rfl (i := (q7.2 10 0)) (x := x1) hi dX2_made_93 (fun H locs hP hD hS => ?_)
            obtain ⟨y11, ey11, h⟩ := bn h
            have hP : va_P D vwCl (wX2 a2 cI cZ y11) H := by rw [ey11]; exact hP
            have hD : va_D A (wX2 a2 cI cZ y11) := by rw [ey11]; exact hD
            refine lv_aload_n hx hb dX2_made_94 rfl (lv_at hl 3 rfl) ?_
            refine va_get (D := D) (ci := 2) (v := .ref (a2 2)) (C := RX2) (T := TX2) (N := 14) hx hb hts in_X2_made_X2 hown hK hP 0 rfl rfl 1 (by decide) (hts (.fieldLink RX2 15 "TermLoom$TypeTable" "firsts" "[I") (by decide +kernel)) (fun _ h9 => h9) rfl dX2_made_95 ?_
            refine lv_aload_n hx hb dX2_made_98 rfl (lv_at hl 3 rfl) ?_
            refine va_get (D := D) (ci := 2) (v := .int (y11 10 0)) (C := RX2) (T := TX2) (N := 14) hx hb hts in_X2_made_X2 hown hK hP 0 rfl rfl 10 (by decide) (hts (.fieldLink RX2 48 "TermLoom$TypeTable" "count" "I") (by decide +kernel)) (fun _ h9 => h9) rfl dX2_made_99 ?_
            refine lv_iload_n hx hb dX2_made_102 rfl (lv_at hl 5 rfl) ?_
            by_cases hi : (y11 10 0) < 0 ∨ 8000 ≤ ((y11 10 0)).toNatClampNeg
            · rw [if_pos hi] at h; exact no h
            rw [if_neg hi] at h
            refine va_iast (f := (y11 1)) hx hb hK hP hD hS 2 0 rfl rfl (i := (y11 10 0)) (x := x2) hi dX2_made_103 (fun H locs hP hD hS => ?_)
            obtain ⟨y12, ey12, h⟩ := bn h
            have hP : va_P D vwCl (wX2 a2 cI cZ y12) H := by rw [ey12]; exact hP
            have hD : va_D A (wX2 a2 cI cZ y12) := by rw [ey12]; exact hD
            refine lv_aload_n hx hb dX2_made_104 rfl (lv_at hl 3 rfl) ?_
            refine va_get (D := D) (ci := 2) (v := .ref (a2 3)) (C := RX2) (T := TX2) (N := 14) hx hb hts in_X2_made_X2 hown hK hP 0 rfl rfl 2 (by decide) (hts (.fieldLink RX2 18 "TermLoom$TypeTable" "seconds" "[I") (by decide +kernel)) (fun _ h9 => h9) rfl dX2_made_105 ?_
            refine lv_aload_n hx hb dX2_made_108 rfl (lv_at hl 3 rfl) ?_
            refine va_get (D := D) (ci := 2) (v := .int (y12 10 0)) (C := RX2) (T := TX2) (N := 14) hx hb hts in_X2_made_X2 hown hK hP 0 rfl rfl 10 (by decide) (hts (.fieldLink RX2 48 "TermLoom$TypeTable" "count" "I") (by decide +kernel)) (fun _ h9 => h9) rfl dX2_made_109 ?_
            refine lv_iload_n hx hb dX2_made_112 rfl (lv_at hl 6 rfl) ?_
            by_cases hi : (y12 10 0) < 0 ∨ 8000 ≤ ((y12 10 0)).toNatClampNeg
            · rw [if_pos hi] at h; exact no h
            rw [if_neg hi] at h
            refine va_iast (f := (y12 2)) hx hb hK hP hD hS 3 0 rfl rfl (i := (y12 10 0)) (x := x3) hi dX2_made_113 (fun H locs hP hD hS => ?_)
            obtain ⟨y13, ey13, h⟩ := bn h
            have hP : va_P D vwCl (wX2 a2 cI cZ y13) H := by rw [ey13]; exact hP
            have hD : va_D A (wX2 a2 cI cZ y13) := by rw [ey13]; exact hD
            refine lv_aload_n hx hb dX2_made_114 rfl (lv_at hl 3 rfl) ?_
            refine va_get (D := D) (ci := 2) (v := .ref (a2 4)) (C := RX2) (T := TX2) (N := 14) hx hb hts in_X2_made_X2 hown hK hP 0 rfl rfl 3 (by decide) (hts (.fieldLink RX2 21 "TermLoom$TypeTable" "symbols" "[I") (by decide +kernel)) (fun _ h9 => h9) rfl dX2_made_115 ?_
            refine lv_aload_n hx hb dX2_made_118 rfl (lv_at hl 3 rfl) ?_
            refine va_get (D := D) (ci := 2) (v := .int (y13 10 0)) (C := RX2) (T := TX2) (N := 14) hx hb hts in_X2_made_X2 hown hK hP 0 rfl rfl 10 (by decide) (hts (.fieldLink RX2 48 "TermLoom$TypeTable" "count" "I") (by decide +kernel)) (fun _ h9 => h9) rfl dX2_made_119 ?_
            refine lv_iload hx hb dX2_made_122 (lv_at hl 2 rfl) ?_
            by_cases hi : (y13 10 0) < 0 ∨ 8000 ≤ ((y13 10 0)).toNatClampNeg
            · rw [if_pos hi] at h; exact no h
            rw [if_neg hi] at h
            refine va_iast (f := (y13 3)) hx hb hK hP hD hS 4 0 rfl rfl (i := (y13 10 0)) (x := ((1 + q1.1) + q2.1)) hi dX2_made_124 (fun H locs hP hD hS => ?_)
            obtain ⟨y14, ey14, h⟩ := bn h
            have hP : va_P D vwCl (wX2 a2 cI cZ y14) H := by rw [ey14]; exact hP
            have hD : va_D A (wX2 a2 cI cZ y14) := by rw [ey14]; exact hD
            refine lv_aload_n hx hb dX2_made_125 rfl (lv_at hl 3 rfl) ?_
            refine va_get (D := D) (ci := 2) (v := .ref (a2 5)) (C := RX2) (T := TX2) (N := 14) hx hb hts in_X2_made_X2 hown hK hP 0 rfl rfl 4 (by decide) (hts (.fieldLink RX2 24 "TermLoom$TypeTable" "heights" "[I") (by decide +kernel)) (fun _ h9 => h9) rfl dX2_made_126 ?_
            refine lv_aload_n hx hb dX2_made_129 rfl (lv_at hl 3 rfl) ?_
            refine va_get (D := D) (ci := 2) (v := .int (y14 10 0)) (C := RX2) (T := TX2) (N := 14) hx hb hts in_X2_made_X2 hown hK hP 0 rfl rfl 10 (by decide) (hts (.fieldLink RX2 48 "TermLoom$TypeTable" "count" "I") (by decide +kernel)) (fun _ h9 => h9) rfl dX2_made_130 ?_
            refine lv_iload hx hb dX2_made_133 (lv_at hl 1 rfl) ?_
            by_cases hi : (y14 10 0) < 0 ∨ 8000 ≤ ((y14 10 0)).toNatClampNeg
            · rw [if_pos hi] at h; exact no h
            rw [if_neg hi] at h
            refine va_iast (f := (y14 4)) hx hb hK hP hD hS 5 0 rfl rfl (i := (y14 10 0)) (x := (1 + (if q3.1 < q4.1 then q4.1 else q3.1))) hi dX2_made_135 (fun H locs hP hD hS => ?_)
            obtain ⟨y15, ey15, h⟩ := bn h
            have hP : va_P D vwCl (wX2 a2 cI cZ y15) H := by rw [ey15]; exact hP
            have hD : va_D A (wX2 a2 cI cZ y15) := by rw [ey15]; exact hD
            refine lv_iload_n hx hb dX2_made_136 rfl (lv_at hl 4 rfl) ?_
            refine lv_iload_n hx hb dX2_made_137 rfl (lv_at hl 5 rfl) ?_
            refine lv_iload_n hx hb dX2_made_138 rfl (lv_at hl 6 rfl) ?_
            obtain ⟨q16, hq16, h⟩ := ob h
            refine mc_i (ws' := wX2 a2 cI cZ y15) (wr := ((wX2o a2 cI cZ y15) : va_W)) [] [0, 1, 2, 3, 4, 5, 6, 7, 8, 9, 10] [0, 1, 2, 3, 4, 5, 6, 7, 8, 9, 10] (va_runS (As := [.int x1, .int x2, .int x3]) (rest := []) ⟨hx, hb, hml, hown, hts⟩ (c_X2_bucketOf l D cI cZ N x1 x2 x3 q16.1 q16.2 hq16 H.size) (va_cwS 3 hts gX2_made_X2_bucketOf rfl rfl rfl (by decide +kernel) ⟨Nat.le_of_ble_eq_true rfl, Nat.le_of_ble_eq_true rfl⟩) (pS [] hP hD hK hN rfl rfl) rfl rfl hl.1 rfl (lv_room (Nat.le_of_ble_eq_true rfl)) dX2_made_139 ⟨Nat.le_of_ble_eq_true rfl, Nat.le_of_ble_eq_true rfl⟩) hP hD hS hA rfl rfl rfl (by decide) rfl rfl (fun H locs hP hD hS => ?_)
            refine lv_istore (lv' := [(7, .int q16.1), (6, .int q7.1), (5, .int (1 + (if q3.1 < q4.1 then q4.1 else q3.1))), (4, .int ((1 + q1.1) + q2.1)), (0, .ref (a2 0)), (1, .int x1), (2, .int x2), (3, .int x3)]) hx hb dX2_made_142 hl (by decide) rfl (fun ls hl => ?_)
            refine lv_aload_n hx hb dX2_made_144 rfl (lv_at hl 4 rfl) ?_
            refine va_get (D := D) (ci := 2) (v := .ref (a2 6)) (C := RX2) (T := TX2) (N := 14) hx hb hts in_X2_made_X2 hown hK hP 0 rfl rfl 5 (by decide) (hts (.fieldLink RX2 27 "TermLoom$TypeTable" "older" "[I") (by decide +kernel)) (fun _ h9 => h9) rfl dX2_made_145 ?_
            refine lv_aload_n hx hb dX2_made_148 rfl (lv_at hl 4 rfl) ?_
            refine va_get (D := D) (ci := 2) (v := .int (y15 10 0)) (C := RX2) (T := TX2) (N := 14) hx hb hts in_X2_made_X2 hown hK hP 0 rfl rfl 10 (by decide) (hts (.fieldLink RX2 48 "TermLoom$TypeTable" "count" "I") (by decide +kernel)) (fun _ h9 => h9) rfl dX2_made_149 ?_
            refine lv_aload_n hx hb dX2_made_152 rfl (lv_at hl 4 rfl) ?_
            refine va_get (D := D) (ci := 2) (v := .ref (a2 7)) (C := RX2) (T := TX2) (N := 14) hx hb hts in_X2_made_X2 hown hK hP 0 rfl rfl 6 (by decide) (hts (.fieldLink RX2 30 "TermLoom$TypeTable" "buckets" "[I") (by decide +kernel)) (fun _ h9 => h9) rfl dX2_made_153 ?_
            refine lv_iload hx hb dX2_made_156 (lv_at hl 0 rfl) ?_
            by_cases hi : q16.1 < 0 ∨ 4096 ≤ (q16.1).toNatClampNeg
            · rw [if_pos hi] at h; exact no h
            rw [if_neg hi] at h
            refine va_iald (f := (y15 6)) hx hb hK hP 7 0 rfl rfl (i := q16.1) hi dX2_made_158 ?_
            by_cases hi : (y15 10 0) < 0 ∨ 8000 ≤ ((y15 10 0)).toNatClampNeg
            · rw [if_pos hi] at h; exact no h
            rw [if_neg hi] at h
            refine va_iast (f := (y15 5)) hx hb hK hP hD hS 6 0 rfl rfl (i := (y15 10 0)) (x := (y15 6 (q16.1).toNatClampNeg)) hi dX2_made_159 (fun H locs hP hD hS => ?_)
            obtain ⟨y17, ey17, h⟩ := bn h
            have hP : va_P D vwCl (wX2 a2 cI cZ y17) H := by rw [ey17]; exact hP
            have hD : va_D A (wX2 a2 cI cZ y17) := by rw [ey17]; exact hD
            refine lv_aload_n hx hb dX2_made_160 rfl (lv_at hl 4 rfl) ?_
            refine va_get (D := D) (ci := 2) (v := .ref (a2 7)) (C := RX2) (T := TX2) (N := 14) hx hb hts in_X2_made_X2 hown hK hP 0 rfl rfl 6 (by decide) (hts (.fieldLink RX2 30 "TermLoom$TypeTable" "buckets" "[I") (by decide +kernel)) (fun _ h9 => h9) rfl dX2_made_161 ?_
            refine lv_iload hx hb dX2_made_164 (lv_at hl 0 rfl) ?_
            refine lv_aload_n hx hb dX2_made_166 rfl (lv_at hl 4 rfl) ?_
            refine va_get (D := D) (ci := 2) (v := .int (y17 10 0)) (C := RX2) (T := TX2) (N := 14) hx hb hts in_X2_made_X2 hown hK hP 0 rfl rfl 10 (by decide) (hts (.fieldLink RX2 48 "TermLoom$TypeTable" "count" "I") (by decide +kernel)) (fun _ h9 => h9) rfl dX2_made_167 ?_
            by_cases hi : q16.1 < 0 ∨ 4096 ≤ (q16.1).toNatClampNeg
            · rw [if_pos hi] at h; exact no h
            rw [if_neg hi] at h
            refine va_iast (f := (y17 6)) hx hb hK hP hD hS 7 0 rfl rfl (i := q16.1) (x := (y17 10 0)) hi dX2_made_170 (fun H locs hP hD hS => ?_)
            obtain ⟨y18, ey18, h⟩ := bn h
            have hP : va_P D vwCl (wX2 a2 cI cZ y18) H := by rw [ey18]; exact hP
            have hD : va_D A (wX2 a2 cI cZ y18) := by rw [ey18]; exact hD
            refine lv_aload_n hx hb dX2_made_171 rfl (lv_at hl 4 rfl) ?_
            refine lv_dup hx hb dX2_made_172 rfl ?_
            refine va_get (D := D) (ci := 2) (v := .int (y18 10 0)) (C := RX2) (T := TX2) (N := 14) hx hb hts in_X2_made_X2 hown hK hP 0 rfl rfl 10 (by decide) (hts (.fieldLink RX2 48 "TermLoom$TypeTable" "count" "I") (by decide +kernel)) (fun _ h9 => h9) rfl dX2_made_173 ?_
            refine lv_iconst (v := 1) hx hb dX2_made_176 rfl ?_
            refine lv_iadd hx hb dX2_made_177 ?_
            refine va_put (D := D) (ci := 2) (v := .int ((y18 10 0) + 1)) (ty := .int) (C := RX2) (T := TX2) (N := 14) hx hb hts in_X2_made_X2 tyX2 tyX2_ok nmX2 hown hK hP hD hS 0 rfl rfl 10 (by decide) (hts (.fieldLink RX2 48 "TermLoom$TypeTable" "count" "I") (by decide +kernel)) (fun _ h9 => h9) rfl (by decide +kernel) rfl rfl (Nat.le_of_ble_eq_true rfl) dX2_made_178 (fun H locs hP hD hS => ?_)
            obtain ⟨y19, ey19, h⟩ := bn h
            have hP : va_P D vwCl (wX2 a2 cI cZ y19) H := by rw [ey19]; exact hP
            have hD : va_D A (wX2 a2 cI cZ y19) := by rw [ey19]; exact hD
            refine lv_aload_n hx hb dX2_made_181 rfl (lv_at hl 4 rfl) ?_
            refine va_get (D := D) (ci := 2) (v := .int (y19 10 0)) (C := RX2) (T := TX2) (N := 14) hx hb hts in_X2_made_X2 hown hK hP 0 rfl rfl 10 (by decide) (hts (.fieldLink RX2 48 "TermLoom$TypeTable" "count" "I") (by decide +kernel)) (fun _ h9 => h9) rfl dX2_made_182 ?_
            refine lv_iconst (v := 1) hx hb dX2_made_185 rfl ?_
            refine lv_isub hx hb dX2_made_186 ?_
            obtain ⟨rfl, rfl⟩ := so h
            exact ret_i C0 hP hD hS dX2_made_187
          · rw [if_neg hc10] at h
            exact k_X2_made_81 C0 N q7.2 q7.1 _ _ _ hP hD hS (lv_sub hl [0] rfl) h
    · rw [if_neg hc6] at h
      exact k_X2_made_47 C0 N q4.2 _ _ _ hP hD hS (lv_sub hl [] rfl) h
