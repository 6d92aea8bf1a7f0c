theorem in_X1_has_X1 : ∀ w ∈ u_ws RX1 TX1 8, w ∈ wsX1_has := by decide +kernel
def f_X1_has_17 (N : Nat) (t k : St) (s0 : Int32) : Option (Int32 × (St × St)) := if s0 = 0 ∨ s0 = 1 then some (s0, (t, k)) else none
def f_X1_has_16 (N : Nat) (t k : St) : Option (Int32 × (St × St)) := f_X1_has_17 N t k 0
def f_X1_has (N : Nat) (t k : St) (x1 : Int32) : Option (Int32 × (St × St)) := if x1 < 0 then f_X1_has_16 N t k else if (t 5 0) ≤ x1 then f_X1_has_16 N t k else f_X1_has_17 N t k 1
abbrev KP_X1_has_17 (p : Program) (l : Launch) (e : Env) (s : State) (m : MethodId) (args : Array Value) (below : List Frame) (meth : Method) (c : Code) (D : va_G) (cI cZ : ClassId) (a1 a3 : Nat → Nat) (A : Nat → Prop) (r : Int32) (u1 : St × St) (K : St → St → Int32 → Option (Int32 × (St × St))) : Prop := ∀ (t k : St) (s0 : Int32) (H : Heap) (locs : List Loc) (ls : Array Slot), va_P D vwCl (wX1 a1 a3 cI cZ (t, k)) H → va_D A (wX1 a1 a3 cI cZ (t, k)) → va_S A s.heap H locs → lv_has ls 2 [] → K t k s0 = some (r, u1) → W p l e ({ frames := 0, cells := 0, slots := 0, locals := 0 } : Room) s m args below meth c H locs 0 0 (QI below args s D cI cZ (wX1 a1 a3 cI cZ) A r u1) (F0 m 17 ls [.int s0])
abbrev KP_X1_has_16 (p : Program) (l : Launch) (e : Env) (s : State) (m : MethodId) (args : Array Value) (below : List Frame) (meth : Method) (c : Code) (D : va_G) (cI cZ : ClassId) (a1 a3 : Nat → Nat) (A : Nat → Prop) (r : Int32) (u1 : St × St) (K : St → St → Option (Int32 × (St × St))) : Prop := ∀ (t k : St) (H : Heap) (locs : List Loc) (ls : Array Slot), va_P D vwCl (wX1 a1 a3 cI cZ (t, k)) H → va_D A (wX1 a1 a3 cI cZ (t, k)) → va_S A s.heap H locs → lv_has ls 2 [] → K t k = some (r, u1) → W p l e ({ frames := 0, cells := 0, slots := 0, locals := 0 } : Room) s m args below meth c H locs 0 0 (QI below args s D cI cZ (wX1 a1 a3 cI cZ) A r u1) (F0 m 16 ls [])
set_option maxHeartbeats 4000000 in
set_option maxRecDepth 100000 in
theorem k_X1_has_17 {p : Program} {l : Launch} {e : Env} {s : State} {m : MethodId} {args : Array Value} {below : List Frame} {meth : Method} {c : Code} {D : va_G} {cI cZ : ClassId} {a1 a3 : Nat → Nat} {A : Nat → Prop} {r : Int32} {u1 : St × St} (C0 : mB p s m args meth c D cI cZ A cX1_has 2 (some .boolean) wsX1_has RX1) (N : Nat) : KP_X1_has_17 p l e s m args below meth c D cI cZ a1 a3 A r u1 (f_X1_has_17 N) := by
  obtain ⟨hx, hb, hml, hr, hown, hts, hlocks, hA, hK, hN⟩ := id C0
  intro t k s0 H locs ls hP hD hS hl h
  unfold f_X1_has_17 at h
  by_cases hz : s0 = 0 ∨ s0 = 1
  · rw [if_pos hz] at h
    obtain ⟨rfl, rfl⟩ := so h
    exact ret_z C0 hz hP hD hS dX1_has_17
  · rw [if_neg hz] at h; exact no h
set_option maxHeartbeats 4000000 in
set_option maxRecDepth 100000 in
theorem k_X1_has_16 {p : Program} {l : Launch} {e : Env} {s : State} {m : MethodId} {args : Array Value} {below : List Frame} {meth : Method} {c : Code} {D : va_G} {cI cZ : ClassId} {a1 a3 : Nat → Nat} {A : Nat → Prop} {r : Int32} {u1 : St × St} (C0 : mB p s m args meth c D cI cZ A cX1_has 2 (some .boolean) wsX1_has RX1) (N : Nat) : KP_X1_has_16 p l e s m args below meth c D cI cZ a1 a3 A r u1 (f_X1_has_16 N) := by
  obtain ⟨hx, hb, hml, hr, hown, hts, hlocks, hA, hK, hN⟩ := id C0
  intro t k H locs ls hP hD hS hl h
  unfold f_X1_has_16 at h
  refine lv_iconst (v := 0) hx hb dX1_has_16 rfl ?_
  exact k_X1_has_17 C0 N t k 0 _ _ _ hP hD hS (lv_sub hl [] rfl) h
set_option maxHeartbeats 4000000 in
set_option maxRecDepth 100000 in
theorem c_X1_has (l : Launch) (D : va_G) (cI cZ : ClassId) (a1 a3 : Nat → Nat) (N : Nat) (t k : St) (x1 : Int32) : MI l yX1_has wsX1_has ({ frames := 0, cells := 0, slots := 0, locals := 0 } : Room) D cI cZ (wX1 a1 a3 cI cZ) [.ref (a1 0), .int x1] (t, k) (f_X1_has N t k x1) := by
  refine MI.of (cc := cX1_has) (maxL := 2) (ret := (some .boolean)) (own := RX1) (by decide) rfl rfl (Nat.le_of_ble_eq_true rfl) ?_
  intro r u1 h p e s m args below meth c A C0 H locs ls hP hD hS hl
  obtain ⟨hx, hb, hml, hr, hown, hts, hlocks, hA, hK, hN⟩ := id C0
  have hl : lv_has ls 2 [(0, .ref (a1 0)), (1, .int x1)] := hl
  unfold f_X1_has at h
  refine lv_iload_n hx hb dX1_has_0 rfl (lv_at hl 1 rfl) ?_
  refine lv_if_lt (tgt := 16) hx hb dX1_has_1 (by decide) (fun hc1 => ?_) (fun hc1 => ?_)
  · rw [if_pos hc1] at h
    exact k_X1_has_16 C0 N t k _ _ _ hP hD hS (lv_sub hl [] rfl) h
  · rw [if_neg hc1] at h
    refine lv_iload_n hx hb dX1_has_4 rfl (lv_at hl 1 rfl) ?_
    refine lv_aload_n hx hb dX1_has_5 rfl (lv_at hl 0 rfl) ?_
    refine va_get (D := D) (ci := 1) (v := .int (t 5 0)) (C := RX1) (T := TX1) (N := 8) hx hb hts in_X1_has_X1 hown hK hP 0 rfl rfl 5 (by decide) (hts (.fieldLink RX1 31 "TermLoom$TermStore" "count" "I") (by decide +kernel)) (fun _ h9 => h9) rfl dX1_has_6 ?_
    refine lv_icmp_ge (tgt := 16) hx hb dX1_has_9 (by decide) (fun hc2 => ?_) (fun hc2 => ?_)
    · rw [if_pos hc2] at h
      exact k_X1_has_16 C0 N t k _ _ _ hP hD hS (lv_sub hl [] rfl) h
    · rw [if_neg hc2] at h
      refine lv_iconst (v := 1) hx hb dX1_has_12 rfl ?_
      refine lv_goto (tgt := 17) hx hb dX1_has_13 (by decide) ?_
      exact k_X1_has_17 C0 N t k 1 _ _ _ hP hD hS (lv_sub hl [] rfl) h

theorem in_X1_start_X1 : ∀ w ∈ u_ws RX1 TX1 8, w ∈ wsX1_start := by decide +kernel
def f_X1_start (N : Nat) (t k : St) (x1 : Int32) : Option (Int32 × (St × St)) := (f_X4_read N 513 (t 2) x1).bind (fun q1 => some (q1.1, (t, k)))
set_option maxHeartbeats 4000000 in
set_option maxRecDepth 100000 in
theorem c_X1_start (l : Launch) (D : va_G) (cI cZ : ClassId) (a1 a3 : Nat → Nat) (N : Nat) (t k : St) (x1 : Int32) : MI l yX1_start wsX1_start ({ frames := 1, cells := 0, slots := 0, locals := 21 } : Room) D cI cZ (wX1 a1 a3 cI cZ) [.ref (a1 0), .int x1] (t, k) (f_X1_start N t k x1) := by
  refine MI.of (cc := cX1_start) (maxL := 2) (ret := (some .int)) (own := RX1) (by decide) rfl rfl (Nat.le_of_ble_eq_true rfl) ?_
  intro r u1 h p e s m args below meth c A C0 H locs ls hP hD hS hl
  obtain ⟨hx, hb, hml, hr, hown, hts, hlocks, hA, hK, hN⟩ := id C0
  have hl : lv_has ls 2 [(0, .ref (a1 0)), (1, .int x1)] := hl
  unfold f_X1_start at h
  refine lv_aload_n hx hb dX1_start_0 rfl (lv_at hl 0 rfl) ?_
  refine va_get (D := D) (ci := 1) (v := .ref (a1 3)) (C := RX1) (T := TX1) (N := 8) hx hb hts in_X1_start_X1 hown hK hP 0 rfl rfl 2 (by decide) (hts (.fieldLink RX1 18 "TermLoom$TermStore" "starts" "[I") (by decide +kernel)) (fun _ h9 => h9) rfl dX1_start_1 ?_
  refine lv_iload_n hx hb dX1_start_4 rfl (lv_at hl 1 rfl) ?_
  obtain ⟨q1, hq1, h⟩ := ob h
  refine mc_i (ws' := wX1 a1 a3 cI cZ (t, k)) (wr := ((wX1 a1 a3 cI cZ (t, k)).eraseIdx 3)) [3] [0, 1, 2, 4, 5, 6, 7] [0, 1, 2, 7, 3, 4, 5, 6] (va_runSN (As := [.ref (a1 3), .int x1]) (rest := []) ⟨hx, hb, hml, hown, hts⟩ (c_X4_read l D cI cZ (a1 3) 513 (t 2) N x1 q1.1 q1.2 hq1 H.size) ⟨va_cnB 2 hts gX1_start_X4_read_n35 rfl rfl rfl (nw_X1_35 hN) (hts (.initialized RX4) (by decide +kernel)) (by decide +kernel) ⟨Nat.le_of_ble_eq_true rfl, Nat.le_of_ble_eq_true rfl⟩, hts (.static yX4_read) (by decide +kernel), trivial⟩ (pS [3] hP hD hK hN rfl rfl) rfl rfl hl.1 rfl (lv_room (Nat.le_of_ble_eq_true rfl)) dX1_start_5 ⟨Nat.le_of_ble_eq_true rfl, Nat.le_of_ble_eq_true rfl⟩) hP hD hS hA rfl rfl rfl (by decide) rfl rfl (fun H locs hP hD hS => ?_)
  obtain ⟨rfl, rfl⟩ := so h
  exact ret_i C0 hP hD hS dX1_start_8

theorem in_X1_end_X1 : ∀ w ∈ u_ws RX1 TX1 8, w ∈ wsX1_end := by decide +kernel
def f_X1_end (N : Nat) (t k : St) (x1 : Int32) : Option (Int32 × (St × St)) := (f_X4_read N 513 (t 2) (x1 + 1)).bind (fun q1 => some (q1.1, (t, k)))
set_option maxHeartbeats 4000000 in
set_option maxRecDepth 100000 in
theorem c_X1_end (l : Launch) (D : va_G) (cI cZ : ClassId) (a1 a3 : Nat → Nat) (N : Nat) (t k : St) (x1 : Int32) : MI l yX1_end wsX1_end ({ frames := 1, cells := 0, slots := 0, locals := 21 } : Room) D cI cZ (wX1 a1 a3 cI cZ) [.ref (a1 0), .int x1] (t, k) (f_X1_end N t k x1) := by
  refine MI.of (cc := cX1_end) (maxL := 2) (ret := (some .int)) (own := RX1) (by decide) rfl rfl (Nat.le_of_ble_eq_true rfl) ?_
  intro r u1 h p e s m args below meth c A C0 H locs ls hP hD hS hl
  obtain ⟨hx, hb, hml, hr, hown, hts, hlocks, hA, hK, hN⟩ := id C0
  have hl : lv_has ls 2 [(0, .ref (a1 0)), (1, .int x1)] := hl
  unfold f_X1_end at h
  refine lv_aload_n hx hb dX1_end_0 rfl (lv_at hl 0 rfl) ?_
  refine va_get (D := D) (ci := 1) (v := .ref (a1 3)) (C := RX1) (T := TX1) (N := 8) hx hb hts in_X1_end_X1 hown hK hP 0 rfl rfl 2 (by decide) (hts (.fieldLink RX1 18 "TermLoom$TermStore" "starts" "[I") (by decide +kernel)) (fun _ h9 => h9) rfl dX1_end_1 ?_
  refine lv_iload_n hx hb dX1_end_4 rfl (lv_at hl 1 rfl) ?_
  refine lv_iconst (v := 1) hx hb dX1_end_5 rfl ?_
  refine lv_iadd hx hb dX1_end_6 ?_
  obtain ⟨q1, hq1, h⟩ := ob h
  refine mc_i (ws' := wX1 a1 a3 cI cZ (t, k)) (wr := ((wX1 a1 a3 cI cZ (t, k)).eraseIdx 3)) [3] [0, 1, 2, 4, 5, 6, 7] [0, 1, 2, 7, 3, 4, 5, 6] (va_runSN (As := [.ref (a1 3), .int (x1 + 1)]) (rest := []) ⟨hx, hb, hml, hown, hts⟩ (c_X4_read l D cI cZ (a1 3) 513 (t 2) N (x1 + 1) q1.1 q1.2 hq1 H.size) ⟨va_cnB 2 hts gX1_end_X4_read_n35 rfl rfl rfl (nw_X1_35 hN) (hts (.initialized RX4) (by decide +kernel)) (by decide +kernel) ⟨Nat.le_of_ble_eq_true rfl, Nat.le_of_ble_eq_true rfl⟩, hts (.static yX4_read) (by decide +kernel), trivial⟩ (pS [3] hP hD hK hN rfl rfl) rfl rfl hl.1 rfl (lv_room (Nat.le_of_ble_eq_true rfl)) dX1_end_7 ⟨Nat.le_of_ble_eq_true rfl, Nat.le_of_ble_eq_true rfl⟩) hP hD hS hA rfl rfl rfl (by decide) rfl rfl (fun H locs hP hD hS => ?_)
  obtain ⟨rfl, rfl⟩ := so h
  exact ret_i C0 hP hD hS dX1_end_10

def f_X1_length (N : Nat) (t k : St) (x1 : Int32) : Option (Int32 × (St × St)) := (f_X1_end N t k x1).bind (fun q1 => (f_X1_start N q1.2.1 q1.2.2 x1).bind (fun q2 => some ((q1.1 - q2.1), (q2.2.1, q2.2.2))))
set_option maxHeartbeats 4000000 in
set_option maxRecDepth 100000 in
theorem c_X1_length (l : Launch) (D : va_G) (cI cZ : ClassId) (a1 a3 : Nat → Nat) (N : Nat) (t k : St) (x1 : Int32) : MI l yX1_length wsX1_length ({ frames := 2, cells := 0, slots := 0, locals := 42 } : Room) D cI cZ (wX1 a1 a3 cI cZ) [.ref (a1 0), .int x1] (t, k) (f_X1_length N t k x1) := by
  refine MI.of (cc := cX1_length) (maxL := 2) (ret := (some .int)) (own := RX1) (by decide) rfl rfl (Nat.le_of_ble_eq_true rfl) ?_
  intro r u1 h p e s m args below meth c A C0 H locs ls hP hD hS hl
  obtain ⟨hx, hb, hml, hr, hown, hts, hlocks, hA, hK, hN⟩ := id C0
  have hl : lv_has ls 2 [(0, .ref (a1 0)), (1, .int x1)] := hl
  unfold f_X1_length at h
  refine lv_aload_n hx hb dX1_length_0 rfl (lv_at hl 0 rfl) ?_
  refine lv_iload_n hx hb dX1_length_1 rfl (lv_at hl 1 rfl) ?_
  obtain ⟨q1, hq1, h⟩ := ob h
  refine mc_i (ws' := wX1 a1 a3 cI cZ (q1.2.1, q1.2.2)) (wr := ([] : va_W)) [0, 1, 2, 3, 4, 5, 6, 7] [] [0, 1, 2, 3, 4, 5, 6, 7] (va_runV (As := [.int x1]) (rest := []) ⟨hx, hb, hml, hown, hts⟩ (c_X1_end l D cI cZ a1 a3 N t k x1 q1.1 q1.2 hq1 H.size) (cwV 1 hts gX1_length_X1_end rfl rfl rfl (by decide +kernel) ⟨Nat.le_of_ble_eq_true rfl, Nat.le_of_ble_eq_true rfl⟩) (pV [0, 1, 2, 3, 4, 5, 6, 7] hP hD hK hN rfl rfl rfl rfl) rfl rfl hl.1 rfl (lv_room (Nat.le_of_ble_eq_true rfl)) dX1_length_2 ⟨Nat.le_of_ble_eq_true rfl, Nat.le_of_ble_eq_true rfl⟩) hP hD hS hA rfl rfl rfl (by decide) rfl rfl (fun H locs hP hD hS => ?_)
  refine lv_aload_n hx hb dX1_length_5 rfl (lv_at hl 0 rfl) ?_
  refine lv_iload_n hx hb dX1_length_6 rfl (lv_at hl 1 rfl) ?_
  obtain ⟨q2, hq2, h⟩ := ob h
  refine mc_i (ws' := wX1 a1 a3 cI cZ (q2.2.1, q2.2.2)) (wr := ([] : va_W)) [0, 1, 2, 3, 4, 5, 6, 7] [] [0, 1, 2, 3, 4, 5, 6, 7] (va_runV (As := [.int x1]) (rest := [.int q1.1]) ⟨hx, hb, hml, hown, hts⟩ (c_X1_start l D cI cZ a1 a3 N q1.2.1 q1.2.2 x1 q2.1 q2.2 hq2 H.size) (cwV 1 hts gX1_length_X1_start rfl rfl rfl (by decide +kernel) ⟨Nat.le_of_ble_eq_true rfl, Nat.le_of_ble_eq_true rfl⟩) (pV [0, 1, 2, 3, 4, 5, 6, 7] hP hD hK hN rfl rfl rfl rfl) rfl rfl hl.1 rfl (lv_room (Nat.le_of_ble_eq_true rfl)) dX1_length_7 ⟨Nat.le_of_ble_eq_true rfl, Nat.le_of_ble_eq_true rfl⟩) hP hD hS hA rfl rfl rfl (by decide) rfl rfl (fun H locs hP hD hS => ?_)
  refine lv_isub hx hb dX1_length_10 ?_
  obtain ⟨rfl, rfl⟩ := so h
  exact ret_i C0 hP hD hS dX1_length_11

theorem in_X1_height_X1 : ∀ w ∈ u_ws RX1 TX1 8, w ∈ wsX1_height := by decide +kernel
def f_X1_height (N : Nat) (t k : St) (x1 : Int32) : Option (Int32 × (St × St)) := (f_X4_read N 512 (t 3) x1).bind (fun q1 => some (q1.1, (t, k)))
set_option maxHeartbeats 4000000 in
set_option maxRecDepth 100000 in
theorem c_X1_height (l : Launch) (D : va_G) (cI cZ : ClassId) (a1 a3 : Nat → Nat) (N : Nat) (t k : St) (x1 : Int32) : MI l yX1_height wsX1_height ({ frames := 1, cells := 0, slots := 0, locals := 21 } : Room) D cI cZ (wX1 a1 a3 cI cZ) [.ref (a1 0), .int x1] (t, k) (f_X1_height N t k x1) := by
  refine MI.of (cc := cX1_height) (maxL := 2) (ret := (some .int)) (own := RX1) (by decide) rfl rfl (Nat.le_of_ble_eq_true rfl) ?_
  intro r u1 h p e s m args below meth c A C0 H locs ls hP hD hS hl
  obtain ⟨hx, hb, hml, hr, hown, hts, hlocks, hA, hK, hN⟩ := id C0
  have hl : lv_has ls 2 [(0, .ref (a1 0)), (1, .int x1)] := hl
  unfold f_X1_height at h
  refine lv_aload_n hx hb dX1_height_0 rfl (lv_at hl 0 rfl) ?_
  refine va_get (D := D) (ci := 1) (v := .ref (a1 4)) (C := RX1) (T := TX1) (N := 8) hx hb hts in_X1_height_X1 hown hK hP 0 rfl rfl 3 (by decide) (hts (.fieldLink RX1 21 "TermLoom$TermStore" "heights" "[I") (by decide +kernel)) (fun _ h9 => h9) rfl dX1_height_1 ?_
  refine lv_iload_n hx hb dX1_height_4 rfl (lv_at hl 1 rfl) ?_
  obtain ⟨q1, hq1, h⟩ := ob h
  refine mc_i (ws' := wX1 a1 a3 cI cZ (t, k)) (wr := ((wX1 a1 a3 cI cZ (t, k)).eraseIdx 4)) [4] [0, 1, 2, 3, 5, 6, 7] [0, 1, 2, 3, 7, 4, 5, 6] (va_runSN (As := [.ref (a1 4), .int x1]) (rest := []) ⟨hx, hb, hml, hown, hts⟩ (c_X4_read l D cI cZ (a1 4) 512 (t 3) N x1 q1.1 q1.2 hq1 H.size) ⟨va_cnB 2 hts gX1_height_X4_read_n35 rfl rfl rfl (nw_X1_35 hN) (hts (.initialized RX4) (by decide +kernel)) (by decide +kernel) ⟨Nat.le_of_ble_eq_true rfl, Nat.le_of_ble_eq_true rfl⟩, hts (.static yX4_read) (by decide +kernel), trivial⟩ (pS [4] hP hD hK hN rfl rfl) rfl rfl hl.1 rfl (lv_room (Nat.le_of_ble_eq_true rfl)) dX1_height_5 ⟨Nat.le_of_ble_eq_true rfl, Nat.le_of_ble_eq_true rfl⟩) hP hD hS hA rfl rfl rfl (by decide) rfl rfl (fun H locs hP hD hS => ?_)
  obtain ⟨rfl, rfl⟩ := so h
  exact ret_i C0 hP hD hS dX1_height_8

theorem in_X1_code_X1 : ∀ w ∈ u_ws RX1 TX1 8, w ∈ wsX1_code := by decide +kernel
def f_X1_code (N : Nat) (t k : St) (x1 : Int32) : Option (Int32 × (St × St)) := (f_X4_read N 30000 (t 0) x1).bind (fun q1 => some (q1.1, (t, k)))
set_option maxHeartbeats 4000000 in
set_option maxRecDepth 100000 in
theorem c_X1_code (l : Launch) (D : va_G) (cI cZ : ClassId) (a1 a3 : Nat → Nat) (N : Nat) (t k : St) (x1 : Int32) : MI l yX1_code wsX1_code ({ frames := 1, cells := 0, slots := 0, locals := 21 } : Room) D cI cZ (wX1 a1 a3 cI cZ) [.ref (a1 0), .int x1] (t, k) (f_X1_code N t k x1) := by
  refine MI.of (cc := cX1_code) (maxL := 2) (ret := (some .int)) (own := RX1) (by decide) rfl rfl (Nat.le_of_ble_eq_true rfl) ?_
  intro r u1 h p e s m args below meth c A C0 H locs ls hP hD hS hl
  obtain ⟨hx, hb, hml, hr, hown, hts, hlocks, hA, hK, hN⟩ := id C0
  have hl : lv_has ls 2 [(0, .ref (a1 0)), (1, .int x1)] := hl
  unfold f_X1_code at h
  refine lv_aload_n hx hb dX1_code_0 rfl (lv_at hl 0 rfl) ?_
  refine va_get (D := D) (ci := 1) (v := .ref (a1 1)) (C := RX1) (T := TX1) (N := 8) hx hb hts in_X1_code_X1 hown hK hP 0 rfl rfl 0 (by decide) (hts (.fieldLink RX1 9 "TermLoom$TermStore" "codes" "[I") (by decide +kernel)) (fun _ h9 => h9) rfl dX1_code_1 ?_
  refine lv_iload_n hx hb dX1_code_4 rfl (lv_at hl 1 rfl) ?_
  obtain ⟨q1, hq1, h⟩ := ob h
  refine mc_i (ws' := wX1 a1 a3 cI cZ (t, k)) (wr := ((wX1 a1 a3 cI cZ (t, k)).eraseIdx 1)) [1] [0, 2, 3, 4, 5, 6, 7] [0, 7, 1, 2, 3, 4, 5, 6] (va_runSN (As := [.ref (a1 1), .int x1]) (rest := []) ⟨hx, hb, hml, hown, hts⟩ (c_X4_read l D cI cZ (a1 1) 30000 (t 0) N x1 q1.1 q1.2 hq1 H.size) ⟨va_cnB 2 hts gX1_code_X4_read_n35 rfl rfl rfl (nw_X1_35 hN) (hts (.initialized RX4) (by decide +kernel)) (by decide +kernel) ⟨Nat.le_of_ble_eq_true rfl, Nat.le_of_ble_eq_true rfl⟩, hts (.static yX4_read) (by decide +kernel), trivial⟩ (pS [1] hP hD hK hN rfl rfl) rfl rfl hl.1 rfl (lv_room (Nat.le_of_ble_eq_true rfl)) dX1_code_5 ⟨Nat.le_of_ble_eq_true rfl, Nat.le_of_ble_eq_true rfl⟩) hP hD hS hA rfl rfl rfl (by decide) rfl rfl (fun H locs hP hD hS => ?_)
  obtain ⟨rfl, rfl⟩ := so h
  exact ret_i C0 hP hD hS dX1_code_8

theorem in_X1_symbolType_X1 : ∀ w ∈ u_ws RX1 TX1 8, w ∈ wsX1_symbolType := by decide +kernel
def f_X1_symbolType (N : Nat) (t k : St) (x1 : Int32) : Option (Int32 × (St × St)) := (f_X4_read N 30000 (t 1) x1).bind (fun q1 => some (q1.1, (t, k)))
set_option maxHeartbeats 4000000 in
set_option maxRecDepth 100000 in
theorem c_X1_symbolType (l : Launch) (D : va_G) (cI cZ : ClassId) (a1 a3 : Nat → Nat) (N : Nat) (t k : St) (x1 : Int32) : MI l yX1_symbolType wsX1_symbolType ({ frames := 1, cells := 0, slots := 0, locals := 21 } : Room) D cI cZ (wX1 a1 a3 cI cZ) [.ref (a1 0), .int x1] (t, k) (f_X1_symbolType N t k x1) := by
  refine MI.of (cc := cX1_symbolType) (maxL := 2) (ret := (some .int)) (own := RX1) (by decide) rfl rfl (Nat.le_of_ble_eq_true rfl) ?_
  intro r u1 h p e s m args below meth c A C0 H locs ls hP hD hS hl
  obtain ⟨hx, hb, hml, hr, hown, hts, hlocks, hA, hK, hN⟩ := id C0
  have hl : lv_has ls 2 [(0, .ref (a1 0)), (1, .int x1)] := hl
  unfold f_X1_symbolType at h
  refine lv_aload_n hx hb dX1_symbolType_0 rfl (lv_at hl 0 rfl) ?_
  refine va_get (D := D) (ci := 1) (v := .ref (a1 2)) (C := RX1) (T := TX1) (N := 8) hx hb hts in_X1_symbolType_X1 hown hK hP 0 rfl rfl 1 (by decide) (hts (.fieldLink RX1 15 "TermLoom$TermStore" "symbolTypes" "[I") (by decide +kernel)) (fun _ h9 => h9) rfl dX1_symbolType_1 ?_
  refine lv_iload_n hx hb dX1_symbolType_4 rfl (lv_at hl 1 rfl) ?_
  obtain ⟨q1, hq1, h⟩ := ob h
  refine mc_i (ws' := wX1 a1 a3 cI cZ (t, k)) (wr := ((wX1 a1 a3 cI cZ (t, k)).eraseIdx 2)) [2] [0, 1, 3, 4, 5, 6, 7] [0, 1, 7, 2, 3, 4, 5, 6] (va_runSN (As := [.ref (a1 2), .int x1]) (rest := []) ⟨hx, hb, hml, hown, hts⟩ (c_X4_read l D cI cZ (a1 2) 30000 (t 1) N x1 q1.1 q1.2 hq1 H.size) ⟨va_cnB 2 hts gX1_symbolType_X4_read_n35 rfl rfl rfl (nw_X1_35 hN) (hts (.initialized RX4) (by decide +kernel)) (by decide +kernel) ⟨Nat.le_of_ble_eq_true rfl, Nat.le_of_ble_eq_true rfl⟩, hts (.static yX4_read) (by decide +kernel), trivial⟩ (pS [2] hP hD hK hN rfl rfl) rfl rfl hl.1 rfl (lv_room (Nat.le_of_ble_eq_true rfl)) dX1_symbolType_5 ⟨Nat.le_of_ble_eq_true rfl, Nat.le_of_ble_eq_true rfl⟩) hP hD hS hA rfl rfl rfl (by decide) rfl rfl (fun H locs hP hD hS => ?_)
  obtain ⟨rfl, rfl⟩ := so h
  exact ret_i C0 hP hD hS dX1_symbolType_8

def f_X1_root (N : Nat) (t k : St) (x1 : Int32) : Option (Int32 × (St × St)) := (f_X1_start N t k x1).bind (fun q1 => (f_X1_code N q1.2.1 q1.2.2 q1.1).bind (fun q2 => some (q2.1, (q2.2.1, q2.2.2))))
set_option maxHeartbeats 4000000 in
set_option maxRecDepth 100000 in
theorem c_X1_root (l : Launch) (D : va_G) (cI cZ : ClassId) (a1 a3 : Nat → Nat) (N : Nat) (t k : St) (x1 : Int32) : MI l yX1_root wsX1_root ({ frames := 2, cells := 0, slots := 0, locals := 42 } : Room) D cI cZ (wX1 a1 a3 cI cZ) [.ref (a1 0), .int x1] (t, k) (f_X1_root N t k x1) := by
  refine MI.of (cc := cX1_root) (maxL := 2) (ret := (some .int)) (own := RX1) (by decide) rfl rfl (Nat.le_of_ble_eq_true rfl) ?_
  intro r u1 h p e s m args below meth c A C0 H locs ls hP hD hS hl
  obtain ⟨hx, hb, hml, hr, hown, hts, hlocks, hA, hK, hN⟩ := id C0
  have hl : lv_has ls 2 [(0, .ref (a1 0)), (1, .int x1)] := hl
  unfold f_X1_root at h
  refine lv_aload_n hx hb dX1_root_0 rfl (lv_at hl 0 rfl) ?_
  refine lv_aload_n hx hb dX1_root_1 rfl (lv_at hl 0 rfl) ?_
  refine lv_iload_n hx hb dX1_root_2 rfl (lv_at hl 1 rfl) ?_
  obtain ⟨q1, hq1, h⟩ := ob h
  refine mc_i (ws' := wX1 a1 a3 cI cZ (q1.2.1, q1.2.2)) (wr := ([] : va_W)) [0, 1, 2, 3, 4, 5, 6, 7] [] [0, 1, 2, 3, 4, 5, 6, 7] (va_runV (As := [.int x1]) (rest := [.ref (a1 0)]) ⟨hx, hb, hml, hown, hts⟩ (c_X1_start l D cI cZ a1 a3 N t k x1 q1.1 q1.2 hq1 H.size) (cwV 1 hts gX1_root_X1_start rfl rfl rfl (by decide +kernel) ⟨Nat.le_of_ble_eq_true rfl, Nat.le_of_ble_eq_true rfl⟩) (pV [0, 1, 2, 3, 4, 5, 6, 7] hP hD hK hN rfl rfl rfl rfl) rfl rfl hl.1 rfl (lv_room (Nat.le_of_ble_eq_true rfl)) dX1_root_3 ⟨Nat.le_of_ble_eq_true rfl, Nat.le_of_ble_eq_true rfl⟩) hP hD hS hA rfl rfl rfl (by decide) rfl rfl (fun H locs hP hD hS => ?_)
  obtain ⟨q2, hq2, h⟩ := ob h
  refine mc_i (ws' := wX1 a1 a3 cI cZ (q2.2.1, q2.2.2)) (wr := ([] : va_W)) [0, 1, 2, 3, 4, 5, 6, 7] [] [0, 1, 2, 3, 4, 5, 6, 7] (va_runV (As := [.int q1.1]) (rest := []) ⟨hx, hb, hml, hown, hts⟩ (c_X1_code l D cI cZ a1 a3 N q1.2.1 q1.2.2 q1.1 q2.1 q2.2 hq2 H.size) (cwV 1 hts gX1_root_X1_code rfl rfl rfl (by decide +kernel) ⟨Nat.le_of_ble_eq_true rfl, Nat.le_of_ble_eq_true rfl⟩) (pV [0, 1, 2, 3, 4, 5, 6, 7] hP hD hK hN rfl rfl rfl rfl) rfl rfl hl.1 rfl (lv_room (Nat.le_of_ble_eq_true rfl)) dX1_root_6 ⟨Nat.le_of_ble_eq_true rfl, Nat.le_of_ble_eq_true rfl⟩) hP hD hS hA rfl rfl rfl (by decide) rfl rfl (fun H locs hP hD hS => ?_)
  obtain ⟨rfl, rfl⟩ := so h
  exact ret_i C0 hP hD hS dX1_root_9

def f_X1_rootType (N : Nat) (t k : St) (x1 : Int32) : Option (Int32 × (St × St)) := (f_X1_start N t k x1).bind (fun q1 => (f_X1_symbolType N q1.2.1 q1.2.2 q1.1).bind (fun q2 => some (q2.1, (q2.2.1, q2.2.2))))
set_option maxHeartbeats 4000000 in
set_option maxRecDepth 100000 in
theorem c_X1_rootType (l : Launch) (D : va_G) (cI cZ : ClassId) (a1 a3 : Nat → Nat) (N : Nat) (t k : St) (x1 : Int32) : MI l yX1_rootType wsX1_rootType ({ frames := 2, cells := 0, slots := 0, locals := 42 } : Room) D cI cZ (wX1 a1 a3 cI cZ) [.ref (a1 0), .int x1] (t, k) (f_X1_rootType N t k x1) := by
  refine MI.of (cc := cX1_rootType) (maxL := 2) (ret := (some .int)) (own := RX1) (by decide) rfl rfl (Nat.le_of_ble_eq_true rfl) ?_
  intro r u1 h p e s m args below meth c A C0 H locs ls hP hD hS hl
  obtain ⟨hx, hb, hml, hr, hown, hts, hlocks, hA, hK, hN⟩ := id C0
  have hl : lv_has ls 2 [(0, .ref (a1 0)), (1, .int x1)] := hl
  unfold f_X1_rootType at h
  refine lv_aload_n hx hb dX1_rootType_0 rfl (lv_at hl 0 rfl) ?_
  refine lv_aload_n hx hb dX1_rootType_1 rfl (lv_at hl 0 rfl) ?_
  refine lv_iload_n hx hb dX1_rootType_2 rfl (lv_at hl 1 rfl) ?_
  obtain ⟨q1, hq1, h⟩ := ob h
  refine mc_i (ws' := wX1 a1 a3 cI cZ (q1.2.1, q1.2.2)) (wr := ([] : va_W)) [0, 1, 2, 3, 4, 5, 6, 7] [] [0, 1, 2, 3, 4, 5, 6, 7] (va_runV (As := [.int x1]) (rest := [.ref (a1 0)]) ⟨hx, hb, hml, hown, hts⟩ (c_X1_start l D cI cZ a1 a3 N t k x1 q1.1 q1.2 hq1 H.size) (cwV 1 hts gX1_rootType_X1_start rfl rfl rfl (by decide +kernel) ⟨Nat.le_of_ble_eq_true rfl, Nat.le_of_ble_eq_true rfl⟩) (pV [0, 1, 2, 3, 4, 5, 6, 7] hP hD hK hN rfl rfl rfl rfl) rfl rfl hl.1 rfl (lv_room (Nat.le_of_ble_eq_true rfl)) dX1_rootType_3 ⟨Nat.le_of_ble_eq_true rfl, Nat.le_of_ble_eq_true rfl⟩) hP hD hS hA rfl rfl rfl (by decide) rfl rfl (fun H locs hP hD hS => ?_)
  obtain ⟨q2, hq2, h⟩ := ob h
  refine mc_i (ws' := wX1 a1 a3 cI cZ (q2.2.1, q2.2.2)) (wr := ([] : va_W)) [0, 1, 2, 3, 4, 5, 6, 7] [] [0, 1, 2, 3, 4, 5, 6, 7] (va_runV (As := [.int q1.1]) (rest := []) ⟨hx, hb, hml, hown, hts⟩ (c_X1_symbolType l D cI cZ a1 a3 N q1.2.1 q1.2.2 q1.1 q2.1 q2.2 hq2 H.size) (cwV 1 hts gX1_rootType_X1_symbolType rfl rfl rfl (by decide +kernel) ⟨Nat.le_of_ble_eq_true rfl, Nat.le_of_ble_eq_true rfl⟩) (pV [0, 1, 2, 3, 4, 5, 6, 7] hP hD hK hN rfl rfl rfl rfl) rfl rfl hl.1 rfl (lv_room (Nat.le_of_ble_eq_true rfl)) dX1_rootType_6 ⟨Nat.le_of_ble_eq_true rfl, Nat.le_of_ble_eq_true rfl⟩) hP hD hS hA rfl rfl rfl (by decide) rfl rfl (fun H locs hP hD hS => ?_)
  obtain ⟨rfl, rfl⟩ := so h
  exact ret_i C0 hP hD hS dX1_rootType_9

theorem in_X1_begin_X1 : ∀ w ∈ u_ws RX1 TX1 8, w ∈ wsX1_begin := by decide +kernel
def f_X1_begin (N : Nat) (t k : St) : Option (St × St) := (f_X1_start N t k (t 5 0)).bind (fun q1 => bnd (up2 q1.2.1 6 0 q1.1) (fun t2 => bnd (up2 t2 7 0 0) (fun t3 => some (t3, q1.2.2))))
set_option maxHeartbeats 4000000 in
set_option maxRecDepth 100000 in
theorem c_X1_begin (l : Launch) (D : va_G) (cI cZ : ClassId) (a1 a3 : Nat → Nat) (N : Nat) (t k : St) : MV l yX1_begin wsX1_begin ({ frames := 2, cells := 0, slots := 0, locals := 42 } : Room) D cI cZ (wX1 a1 a3 cI cZ) [.ref (a1 0)] (t, k) (f_X1_begin N t k) := by
  refine MV.of (cc := cX1_begin) (maxL := 1) (ret := none) (own := RX1) (by decide) rfl rfl (Nat.le_of_ble_eq_true rfl) ?_
  intro u1 h p e s m args below meth c A C0 H locs ls hP hD hS hl
  obtain ⟨hx, hb, hml, hr, hown, hts, hlocks, hA, hK, hN⟩ := id C0
  have hl : lv_has ls 1 [(0, .ref (a1 0))] := hl
  unfold f_X1_begin at h
  refine lv_aload_n hx hb dX1_begin_0 rfl (lv_at hl 0 rfl) ?_
  refine lv_aload_n hx hb dX1_begin_1 rfl (lv_at hl 0 rfl) ?_
  refine lv_aload_n hx hb dX1_begin_2 rfl (lv_at hl 0 rfl) ?_
  refine va_get (D := D) (ci := 1) (v := .int (t 5 0)) (C := RX1) (T := TX1) (N := 8) hx hb hts in_X1_begin_X1 hown hK hP 0 rfl rfl 5 (by decide) (hts (.fieldLink RX1 31 "TermLoom$TermStore" "count" "I") (by decide +kernel)) (fun _ h9 => h9) rfl dX1_begin_3 ?_
  obtain ⟨q1, hq1, h⟩ := ob h
  refine mc_i (ws' := wX1 a1 a3 cI cZ (q1.2.1, q1.2.2)) (wr := ([] : va_W)) [0, 1, 2, 3, 4, 5, 6, 7] [] [0, 1, 2, 3, 4, 5, 6, 7] (va_runV (As := [.int (t 5 0)]) (rest := [.ref (a1 0)]) ⟨hx, hb, hml, hown, hts⟩ (c_X1_start l D cI cZ a1 a3 N t k (t 5 0) q1.1 q1.2 hq1 H.size) (cwV 1 hts gX1_begin_X1_start rfl rfl rfl (by decide +kernel) ⟨Nat.le_of_ble_eq_true rfl, Nat.le_of_ble_eq_true rfl⟩) (pV [0, 1, 2, 3, 4, 5, 6, 7] hP hD hK hN rfl rfl rfl rfl) rfl rfl hl.1 rfl (lv_room (Nat.le_of_ble_eq_true rfl)) dX1_begin_6 ⟨Nat.le_of_ble_eq_true rfl, Nat.le_of_ble_eq_true rfl⟩) hP hD hS hA rfl rfl rfl (by decide) rfl rfl (fun H locs hP hD hS => ?_)
  refine va_put (D := D) (ci := 1) (v := .int q1.1) (ty := .int) (C := RX1) (T := TX1) (N := 8) hx hb hts in_X1_begin_X1 tyX1 tyX1_ok nmX1 hown hK hP hD hS 0 rfl rfl 6 (by decide) (hts (.fieldLink RX1 52 "TermLoom$TermStore" "tail" "I") (by decide +kernel)) (fun _ h9 => h9) rfl (by decide +kernel) rfl rfl (Nat.le_of_ble_eq_true rfl) dX1_begin_9 (fun H locs hP hD hS => ?_)
  obtain ⟨t2, et2, h⟩ := bn h
  have hP : va_P D vwCl (wX1 a1 a3 cI cZ (t2, q1.2.2)) H := by rw [et2]; exact hP
  have hD : va_D A (wX1 a1 a3 cI cZ (t2, q1.2.2)) := by rw [et2]; exact hD
  refine lv_aload_n hx hb dX1_begin_12 rfl (lv_at hl 0 rfl) ?_
  refine lv_iconst (v := 0) hx hb dX1_begin_13 rfl ?_
  refine va_put (D := D) (ci := 1) (v := .int 0) (ty := .boolean) (C := RX1) (T := TX1) (N := 8) hx hb hts in_X1_begin_X1 tyX1 tyX1_ok nmX1 hown hK hP hD hS 0 rfl rfl 7 (by decide) (hts (.fieldLink RX1 55 "TermLoom$TermStore" "failed" "Z") (by decide +kernel)) (fun _ h9 => h9) rfl (by decide +kernel) rfl rfl (Nat.le_of_ble_eq_true rfl) dX1_begin_14 (fun H locs hP hD hS => ?_)
  obtain ⟨t3, et3, h⟩ := bn h
  have hP : va_P D vwCl (wX1 a1 a3 cI cZ (t3, q1.2.2)) H := by rw [et3]; exact hP
  have hD : va_D A (wX1 a1 a3 cI cZ (t3, q1.2.2)) := by rw [et3]; exact hD
  obtain rfl := so1 h
  exact ret_v C0 hP hD hS dX1_begin_17

theorem in_X1_hasRoom_X1 : ∀ w ∈ u_ws RX1 TX1 8, w ∈ wsX1_hasRoom := by decide +kernel
def f_X1_hasRoom_45 (N : Nat) (t k : St) (s0 : Int32) : Option (Int32 × (St × St)) := if s0 = 0 ∨ s0 = 1 then some (s0, (t, k)) else none
def f_X1_hasRoom_44 (N : Nat) (t k : St) : Option (Int32 × (St × St)) := f_X1_hasRoom_45 N t k 0
def f_X1_hasRoom (N : Nat) (t k : St) (x1 : Int32) : Option (Int32 × (St × St)) := if (t 6 0) < 0 then f_X1_hasRoom_44 N t k else if 30000 < ((t 6 0) + x1) then f_X1_hasRoom_44 N t k else (f_X1_start N t k (t 5 0)).bind (fun q3 => if 4000 < (((t 6 0) + x1) - q3.1) then f_X1_hasRoom_44 N q3.2.1 q3.2.2 else f_X1_hasRoom_45 N q3.2.1 q3.2.2 1)
abbrev KP_X1_hasRoom_45 (p : Program) (l : Launch) (e : Env) (s : State) (m : MethodId) (args : Array Value) (below : List Frame) (meth : Method) (c : Code) (D : va_G) (cI cZ : ClassId) (a1 a3 : Nat → Nat) (A : Nat → Prop) (r : Int32) (u1 : St × St) (K : St → St → Int32 → Option (Int32 × (St × St))) : Prop := ∀ (t k : St) (s0 : Int32) (H : Heap) (locs : List Loc) (ls : Array Slot), va_P D vwCl (wX1 a1 a3 cI cZ (t, k)) H → va_D A (wX1 a1 a3 cI cZ (t, k)) → va_S A s.heap H locs → lv_has ls 2 [] → K t k s0 = some (r, u1) → W p l e ({ frames := 2, cells := 0, slots := 0, locals := 42 } : Room) s m args below meth c H locs 0 0 (QI below args s D cI cZ (wX1 a1 a3 cI cZ) A r u1) (F0 m 45 ls [.int s0])
abbrev KP_X1_hasRoom_44 (p : Program) (l : Launch) (e : Env) (s : State) (m : MethodId) (args : Array Value) (below : List Frame) (meth : Method) (c : Code) (D : va_G) (cI cZ : ClassId) (a1 a3 : Nat → Nat) (A : Nat → Prop) (r : Int32) (u1 : St × St) (K : St → St → Option (Int32 × (St × St))) : Prop := ∀ (t k : St) (H : Heap) (locs : List Loc) (ls : Array Slot), va_P D vwCl (wX1 a1 a3 cI cZ (t, k)) H → va_D A (wX1 a1 a3 cI cZ (t, k)) → va_S A s.heap H locs → lv_has ls 2 [] → K t k = some (r, u1) → W p l e ({ frames := 2, cells := 0, slots := 0, locals := 42 } : Room) s m args below meth c H locs 0 0 (QI below args s D cI cZ (wX1 a1 a3 cI cZ) A r u1) (F0 m 44 ls [])
set_option maxHeartbeats 4000000 in
set_option maxRecDepth 100000 in
theorem k_X1_hasRoom_45 {p : Program} {l : Launch} {e : Env} {s : State} {m : MethodId} {args : Array Value} {below : List Frame} {meth : Method} {c : Code} {D : va_G} {cI cZ : ClassId} {a1 a3 : Nat → Nat} {A : Nat → Prop} {r : Int32} {u1 : St × St} (C0 : mB p s m args meth c D cI cZ A cX1_hasRoom 2 (some .boolean) wsX1_hasRoom RX1) (N : Nat) : KP_X1_hasRoom_45 p l e s m args below meth c D cI cZ a1 a3 A r u1 (f_X1_hasRoom_45 N) := by
  obtain ⟨hx, hb, hml, hr, hown, hts, hlocks, hA, hK, hN⟩ := id C0
  intro t k s0 H locs ls hP hD hS hl h
  unfold f_X1_hasRoom_45 at h
  by_cases hz : s0 = 0 ∨ s0 = 1
  · rw [if_pos hz] at h
    obtain ⟨rfl, rfl⟩ := so h
    exact ret_z C0 hz hP hD hS dX1_hasRoom_45
  · rw [if_neg hz] at h; exact no h
set_option maxHeartbeats 4000000 in
set_option maxRecDepth 100000 in
theorem k_X1_hasRoom_44 {p : Program} {l : Launch} {e : Env} {s : State} {m : MethodId} {args : Array Value} {below : List Frame} {meth : Method} {c : Code} {D : va_G} {cI cZ : ClassId} {a1 a3 : Nat → Nat} {A : Nat → Prop} {r : Int32} {u1 : St × St} (C0 : mB p s m args meth c D cI cZ A cX1_hasRoom 2 (some .boolean) wsX1_hasRoom RX1) (N : Nat) : KP_X1_hasRoom_44 p l e s m args below meth c D cI cZ a1 a3 A r u1 (f_X1_hasRoom_44 N) := by
  obtain ⟨hx, hb, hml, hr, hown, hts, hlocks, hA, hK, hN⟩ := id C0
  intro t k H locs ls hP hD hS hl h
  unfold f_X1_hasRoom_44 at h
  refine lv_iconst (v := 0) hx hb dX1_hasRoom_44 rfl ?_
  exact k_X1_hasRoom_45 C0 N t k 0 _ _ _ hP hD hS (lv_sub hl [] rfl) h
set_option maxHeartbeats 4000000 in
set_option maxRecDepth 100000 in
theorem c_X1_hasRoom (l : Launch) (D : va_G) (cI cZ : ClassId) (a1 a3 : Nat → Nat) (N : Nat) (t k : St) (x1 : Int32) : MI l yX1_hasRoom wsX1_hasRoom ({ frames := 2, cells := 0, slots := 0, locals := 42 } : Room) D cI cZ (wX1 a1 a3 cI cZ) [.ref (a1 0), .int x1] (t, k) (f_X1_hasRoom N t k x1) := by
  refine MI.of (cc := cX1_hasRoom) (maxL := 2) (ret := (some .boolean)) (own := RX1) (by decide) rfl rfl (Nat.le_of_ble_eq_true rfl) ?_
  intro r u1 h p e s m args below meth c A C0 H locs ls hP hD hS hl
  obtain ⟨hx, hb, hml, hr, hown, hts, hlocks, hA, hK, hN⟩ := id C0
  have hl : lv_has ls 2 [(0, .ref (a1 0)), (1, .int x1)] := hl
  unfold f_X1_hasRoom at h
  refine lv_aload_n hx hb dX1_hasRoom_0 rfl (lv_at hl 0 rfl) ?_
  refine va_get (D := D) (ci := 1) (v := .int (t 6 0)) (C := RX1) (T := TX1) (N := 8) hx hb hts in_X1_hasRoom_X1 hown hK hP 0 rfl rfl 6 (by decide) (hts (.fieldLink RX1 52 "TermLoom$TermStore" "tail" "I") (by decide +kernel)) (fun _ h9 => h9) rfl dX1_hasRoom_1 ?_
  refine lv_if_lt (tgt := 44) hx hb dX1_hasRoom_4 (by decide) (fun hc1 => ?_) (fun hc1 => ?_)
  · rw [if_pos hc1] at h
    exact k_X1_hasRoom_44 C0 N t k _ _ _ hP hD hS (lv_sub hl [] rfl) h
  · rw [if_neg hc1] at h
    refine lv_aload_n hx hb dX1_hasRoom_7 rfl (lv_at hl 0 rfl) ?_
    refine va_get (D := D) (ci := 1) (v := .int (t 6 0)) (C := RX1) (T := TX1) (N := 8) hx hb hts in_X1_hasRoom_X1 hown hK hP 0 rfl rfl 6 (by decide) (hts (.fieldLink RX1 52 "TermLoom$TermStore" "tail" "I") (by decide +kernel)) (fun _ h9 => h9) rfl dX1_hasRoom_8 ?_
    refine lv_iload_n hx hb dX1_hasRoom_11 rfl (lv_at hl 1 rfl) ?_
    refine lv_iadd hx hb dX1_hasRoom_12 ?_
    refine lv_sipush (v := 30000) hx hb dX1_hasRoom_13 rfl ?_
    refine lv_icmp_gt (tgt := 44) hx hb dX1_hasRoom_16 (by decide) (fun hc2 => ?_) (fun hc2 => ?_)
    · rw [if_pos hc2] at h
      exact k_X1_hasRoom_44 C0 N t k _ _ _ hP hD hS (lv_sub hl [] rfl) h
    · rw [if_neg hc2] at h
      refine lv_aload_n hx hb dX1_hasRoom_19 rfl (lv_at hl 0 rfl) ?_
      refine va_get (D := D) (ci := 1) (v := .int (t 6 0)) (C := RX1) (T := TX1) (N := 8) hx hb hts in_X1_hasRoom_X1 hown hK hP 0 rfl rfl 6 (by decide) (hts (.fieldLink RX1 52 "TermLoom$TermStore" "tail" "I") (by decide +kernel)) (fun _ h9 => h9) rfl dX1_hasRoom_20 ?_
      refine lv_iload_n hx hb dX1_hasRoom_23 rfl (lv_at hl 1 rfl) ?_
      refine lv_iadd hx hb dX1_hasRoom_24 ?_
      refine lv_aload_n hx hb dX1_hasRoom_25 rfl (lv_at hl 0 rfl) ?_
      refine lv_aload_n hx hb dX1_hasRoom_26 rfl (lv_at hl 0 rfl) ?_
      refine va_get (D := D) (ci := 1) (v := .int (t 5 0)) (C := RX1) (T := TX1) (N := 8) hx hb hts in_X1_hasRoom_X1 hown hK hP 0 rfl rfl 5 (by decide) (hts (.fieldLink RX1 31 "TermLoom$TermStore" "count" "I") (by decide +kernel)) (fun _ h9 => h9) rfl dX1_hasRoom_27 ?_
      obtain ⟨q3, hq3, h⟩ := ob h
      refine mc_i (ws' := wX1 a1 a3 cI cZ (q3.2.1, q3.2.2)) (wr := ([] : va_W)) [0, 1, 2, 3, 4, 5, 6, 7] [] [0, 1, 2, 3, 4, 5, 6, 7] (va_runV (As := [.int (t 5 0)]) (rest := [.int ((t 6 0) + x1)]) ⟨hx, hb, hml, hown, hts⟩ (c_X1_start l D cI cZ a1 a3 N t k (t 5 0) q3.1 q3.2 hq3 H.size) (cwV 1 hts gX1_hasRoom_X1_start rfl rfl rfl (by decide +kernel) ⟨Nat.le_of_ble_eq_true rfl, Nat.le_of_ble_eq_true rfl⟩) (pV [0, 1, 2, 3, 4, 5, 6, 7] hP hD hK hN rfl rfl rfl rfl) rfl rfl hl.1 rfl (lv_room (Nat.le_of_ble_eq_true rfl)) dX1_hasRoom_30 ⟨Nat.le_of_ble_eq_true rfl, Nat.le_of_ble_eq_true rfl⟩) hP hD hS hA rfl rfl rfl (by decide) rfl rfl (fun H locs hP hD hS => ?_)
      refine lv_isub hx hb dX1_hasRoom_33 ?_
      refine lv_sipush (v := 4000) hx hb dX1_hasRoom_34 rfl ?_
      refine lv_icmp_gt (tgt := 44) hx hb dX1_hasRoom_37 (by decide) (fun hc4 => ?_) (fun hc4 => ?_)
      · rw [if_pos hc4] at h
        exact k_X1_hasRoom_44 C0 N q3.2.1 q3.2.2 _ _ _ hP hD hS (lv_sub hl [] rfl) h
      · rw [if_neg hc4] at h
        refine lv_iconst (v := 1) hx hb dX1_hasRoom_40 rfl ?_
        refine lv_goto (tgt := 45) hx hb dX1_hasRoom_41 (by decide) ?_
        exact k_X1_hasRoom_45 C0 N q3.2.1 q3.2.2 1 _ _ _ hP hD hS (lv_sub hl [] rfl) h

theorem in_X1_add_X1 : ∀ w ∈ u_ws RX1 TX1 8, w ∈ wsX1_add := by decide +kernel
def f_X1_add_15 (N : Nat) (t k : St) : Option (St × St) := bnd (up2 t 7 0 1) (fun t1 => some (t1, k))
def f_X1_add (N : Nat) (t k : St) (x1 x2 : Int32) : Option (St × St) := if (t 7 0) = 0 then (f_X1_hasRoom N t k 1).bind (fun q2 => if q2.1 = 0 then f_X1_add_15 N q2.2.1 q2.2.2 else if (q2.2.1 6 0) < 0 ∨ 30000 ≤ ((q2.2.1 6 0)).toNatClampNeg then none else bnd (up2 q2.2.1 0 ((q2.2.1 6 0)).toNatClampNeg x1) (fun t4 => if (t4 6 0) < 0 ∨ 30000 ≤ ((t4 6 0)).toNatClampNeg then none else bnd (up2 t4 1 ((t4 6 0)).toNatClampNeg x2) (fun t5 => bnd (up2 t5 6 0 ((t5 6 0) + 1)) (fun t6 => some (t6, q2.2.2))))) else f_X1_add_15 N t k
abbrev KP_X1_add_15 (p : Program) (l : Launch) (e : Env) (s : State) (m : MethodId) (args : Array Value) (below : List Frame) (meth : Method) (c : Code) (D : va_G) (cI cZ : ClassId) (a1 a3 : Nat → Nat) (A : Nat → Prop) (u1 : St × St) (K : St → St → Option (St × St)) : Prop := ∀ (t k : St) (H : Heap) (locs : List Loc) (ls : Array Slot), va_P D vwCl (wX1 a1 a3 cI cZ (t, k)) H → va_D A (wX1 a1 a3 cI cZ (t, k)) → va_S A s.heap H locs → lv_has ls 3 [(0, .ref (a1 0))] → K t k = some u1 → W p l e ({ frames := 3, cells := 0, slots := 0, locals := 63 } : Room) s m args below meth c H locs 0 0 (QV below args s D cI cZ (wX1 a1 a3 cI cZ) A u1) (F0 m 15 ls [])
set_option maxHeartbeats 4000000 in
set_option maxRecDepth 100000 in
theorem k_X1_add_15 {p : Program} {l : Launch} {e : Env} {s : State} {m : MethodId} {args : Array Value} {below : List Frame} {meth : Method} {c : Code} {D : va_G} {cI cZ : ClassId} {a1 a3 : Nat → Nat} {A : Nat → Prop} {u1 : St × St} (C0 : mB p s m args meth c D cI cZ A cX1_add 3 none wsX1_add RX1) (N : Nat) : KP_X1_add_15 p l e s m args below meth c D cI cZ a1 a3 A u1 (f_X1_add_15 N) := by
  obtain ⟨hx, hb, hml, hr, hown, hts, hlocks, hA, hK, hN⟩ := id C0
  intro t k H locs ls hP hD hS hl h
  unfold f_X1_add_15 at h
  refine lv_aload_n hx hb dX1_add_15 rfl (lv_at hl 0 rfl) ?_
  refine lv_iconst (v := 1) hx hb dX1_add_16 rfl ?_
  refine va_put (D := D) (ci := 1) (v := .int 1) (ty := .boolean) (C := RX1) (T := TX1) (N := 8) hx hb hts in_X1_add_X1 tyX1 tyX1_ok nmX1 hown hK hP hD hS 0 rfl rfl 7 (by decide) (hts (.fieldLink RX1 55 "TermLoom$TermStore" "failed" "Z") (by decide +kernel)) (fun _ h9 => h9) rfl (by decide +kernel) rfl rfl (Nat.le_of_ble_eq_true rfl) dX1_add_17 (fun H locs hP hD hS => ?_)
  obtain ⟨t1, et1, h⟩ := bn h
  have hP : va_P D vwCl (wX1 a1 a3 cI cZ (t1, k)) H := by rw [et1]; exact hP
  have hD : va_D A (wX1 a1 a3 cI cZ (t1, k)) := by rw [et1]; exact hD
  obtain rfl := so1 h
  exact ret_v C0 hP hD hS dX1_add_20
set_option maxHeartbeats 4000000 in
set_option maxRecDepth 100000 in
theorem c_X1_add (l : Launch) (D : va_G) (cI cZ : ClassId) (a1 a3 : Nat → Nat) (N : Nat) (t k : St) (x1 x2 : Int32) : MV l yX1_add wsX1_add ({ frames := 3, cells := 0, slots := 0, locals := 63 } : Room) D cI cZ (wX1 a1 a3 cI cZ) [.ref (a1 0), .int x1, .int x2] (t, k) (f_X1_add N t k x1 x2) := by
  refine MV.of (cc := cX1_add) (maxL := 3) (ret := none) (own := RX1) (by decide) rfl rfl (Nat.le_of_ble_eq_true rfl) ?_
  intro u1 h p e s m args below meth c A C0 H locs ls hP hD hS hl
  obtain ⟨hx, hb, hml, hr, hown, hts, hlocks, hA, hK, hN⟩ := id C0
  have hl : lv_has ls 3 [(0, .ref (a1 0)), (1, .int x1), (2, .int x2)] := hl
  unfold f_X1_add at h
  refine lv_aload_n hx hb dX1_add_0 rfl (lv_at hl 0 rfl) ?_
  refine va_get (D := D) (ci := 1) (v := .int (t 7 0)) (C := RX1) (T := TX1) (N := 8) hx hb hts in_X1_add_X1 hown hK hP 0 rfl rfl 7 (by decide) (hts (.fieldLink RX1 55 "TermLoom$TermStore" "failed" "Z") (by decide +kernel)) (fun _ h9 => h9) rfl dX1_add_1 ?_
  refine lv_if_ne (tgt := 15) hx hb dX1_add_4 (by decide) (fun hc1 => ?_) (fun hc1 => ?_)
  · rw [if_neg hc1] at h
    exact k_X1_add_15 C0 N t k _ _ _ hP hD hS (lv_sub hl [0] rfl) h
  · rw [if_pos hc1] at h
    refine lv_aload_n hx hb dX1_add_7 rfl (lv_at hl 0 rfl) ?_
    refine lv_iconst (v := 1) hx hb dX1_add_8 rfl ?_
    obtain ⟨q2, hq2, h⟩ := ob h
    refine mc_i (ws' := wX1 a1 a3 cI cZ (q2.2.1, q2.2.2)) (wr := ([] : va_W)) [0, 1, 2, 3, 4, 5, 6, 7] [] [0, 1, 2, 3, 4, 5, 6, 7] (va_runV (As := [.int 1]) (rest := []) ⟨hx, hb, hml, hown, hts⟩ (c_X1_hasRoom l D cI cZ a1 a3 N t k 1 q2.1 q2.2 hq2 H.size) (cwV 1 hts gX1_add_X1_hasRoom rfl rfl rfl (by decide +kernel) ⟨Nat.le_of_ble_eq_true rfl, Nat.le_of_ble_eq_true rfl⟩) (pV [0, 1, 2, 3, 4, 5, 6, 7] hP hD hK hN rfl rfl rfl rfl) rfl rfl hl.1 rfl (lv_room (Nat.le_of_ble_eq_true rfl)) dX1_add_9 ⟨Nat.le_of_ble_eq_true rfl, Nat.le_of_ble_eq_true rfl⟩) hP hD hS hA rfl rfl rfl (by decide) rfl rfl (fun H locs hP hD hS => ?_)
    refine lv_if_ne (tgt := 21) hx hb dX1_add_12 (by decide) (fun hc3 => ?_) (fun hc3 => ?_)
    · rw [if_neg hc3] at h
      refine lv_aload_n hx hb dX1_add_21 rfl (lv_at hl 0 rfl) ?_
      refine va_get (D := D) (ci := 1) (v := .ref (a1 1)) (C := RX1) (T := TX1) (N := 8) hx hb hts in_X1_add_X1 hown hK hP 0 rfl rfl 0 (by decide) (hts (.fieldLink RX1 9 "TermLoom$TermStore" "codes" "[I") (by decide +kernel)) (fun _ h9 => h9) rfl dX1_add_22 ?_
      refine lv_aload_n hx hb dX1_add_25 rfl (lv_at hl 0 rfl) ?_
      refine va_get (D := D) (ci := 1) (v := .int (q2.2.1 6 0)) (C := RX1) (T := TX1) (N := 8) hx hb hts in_X1_add_X1 hown hK hP 0 rfl rfl 6 (by decide) (hts (.fieldLink RX1 52 "TermLoom$TermStore" "tail" "I") (by decide +kernel)) (fun _ h9 => h9) rfl dX1_add_26 ?_
      refine lv_iload_n hx hb dX1_add_29 rfl (lv_at hl 1 rfl) ?_
      by_cases hi : (q2.2.1 6 0) < 0 ∨ 30000 ≤ ((q2.2.1 6 0)).toNatClampNeg
      · rw [if_pos hi] at h; exact no h
      rw [if_neg hi] at h
      refine va_iast (f := (q2.2.1 0)) hx hb hK hP hD hS 1 0 rfl rfl (i := (q2.2.1 6 0)) (x := x1) hi dX1_add_30 (fun H locs hP hD hS => ?_)
      obtain ⟨t4, et4, h⟩ := bn h
      have hP : va_P D vwCl (wX1 a1 a3 cI cZ (t4, q2.2.2)) H := by rw [et4]; exact hP
      have hD : va_D A (wX1 a1 a3 cI cZ (t4, q2.2.2)) := by rw [et4]; exact hD
      refine lv_aload_n hx hb dX1_add_31 rfl (lv_at hl 0 rfl) ?_
      refine va_get (D := D) (ci := 1) (v := .ref (a1 2)) (C := RX1) (T := TX1) (N := 8) hx hb hts in_X1_add_X1 hown hK hP 0 rfl rfl 1 (by decide) (hts (.fieldLink RX1 15 "TermLoom$TermStore" "symbolTypes" "[I") (by decide +kernel)) (fun _ h9 => h9) rfl dX1_add_32 ?_
      refine lv_aload_n hx hb dX1_add_35 rfl (lv_at hl 0 rfl) ?_
      refine va_get (D := D) (ci := 1) (v := .int (t4 6 0)) (C := RX1) (T := TX1) (N := 8) hx hb hts in_X1_add_X1 hown hK hP 0 rfl rfl 6 (by decide) (hts (.fieldLink RX1 52 "TermLoom$TermStore" "tail" "I") (by decide +kernel)) (fun _ h9 => h9) rfl dX1_add_36 ?_
      refine lv_iload_n hx hb dX1_add_39 rfl (lv_at hl 2 rfl) ?_
      by_cases hi : (t4 6 0) < 0 ∨ 30000 ≤ ((t4 6 0)).toNatClampNeg
      · rw [if_pos hi] at h; exact no h
      rw [if_neg hi] at h
      refine va_iast (f := (t4 1)) hx hb hK hP hD hS 2 0 rfl rfl (i := (t4 6 0)) (x := x2) hi dX1_add_40 (fun H locs hP hD hS => ?_)
      obtain ⟨t5, et5, h⟩ := bn h
      have hP : va_P D vwCl (wX1 a1 a3 cI cZ (t5, q2.2.2)) H := by rw [et5]; exact hP
      have hD : va_D A (wX1 a1 a3 cI cZ (t5, q2.2.2)) := by rw [et5]; exact hD
      refine lv_aload_n hx hb dX1_add_41 rfl (lv_at hl 0 rfl) ?_
      refine lv_dup hx hb dX1_add_42 rfl ?_
      refine va_get (D := D) (ci := 1) (v := .int (t5 6 0)) (C := RX1) (T := TX1) (N := 8) hx hb hts in_X1_add_X1 hown hK hP 0 rfl rfl 6 (by decide) (hts (.fieldLink RX1 52 "TermLoom$TermStore" "tail" "I") (by decide +kernel)) (fun _ h9 => h9) rfl dX1_add_43 ?_
      refine lv_iconst (v := 1) hx hb dX1_add_46 rfl ?_
      refine lv_iadd hx hb dX1_add_47 ?_
      refine va_put (D := D) (ci := 1) (v := .int ((t5 6 0) + 1)) (ty := .int) (C := RX1) (T := TX1) (N := 8) hx hb hts in_X1_add_X1 tyX1 tyX1_ok nmX1 hown hK hP hD hS 0 rfl rfl 6 (by decide) (hts (.fieldLink RX1 52 "TermLoom$TermStore" "tail" "I") (by decide +kernel)) (fun _ h9 => h9) rfl (by decide +kernel) rfl rfl (Nat.le_of_ble_eq_true rfl) dX1_add_48 (fun H locs hP hD hS => ?_)
      obtain ⟨t6, et6, h⟩ := bn h
      have hP : va_P D vwCl (wX1 a1 a3 cI cZ (t6, q2.2.2)) H := by rw [et6]; exact hP
      have hD : va_D A (wX1 a1 a3 cI cZ (t6, q2.2.2)) := by rw [et6]; exact hD
      obtain rfl := so1 h
      exact ret_v C0 hP hD hS dX1_add_51
    · rw [if_pos hc3] at h
      exact k_X1_add_15 C0 N q2.2.1 q2.2.2 _ _ _ hP hD hS (lv_sub hl [0] rfl) h

theorem in_X1_copy_X1 : ∀ w ∈ u_ws RX1 TX1 8, w ∈ wsX1_copy := by decide +kernel
def f_X1_copy_35 (N : Nat) (t k : St) : Option (St × St) := bnd (up2 t 7 0 1) (fun t1 => some (t1, k))
def f_X1_copy (N : Nat) (t k : St) (x1 x2 : Int32) : Option (St × St) := if (t 7 0) = 0 then if x1 < 0 then f_X1_copy_35 N t k else if (x2 - x1) < 0 then f_X1_copy_35 N t k else if (t 6 0) < x2 then f_X1_copy_35 N t k else (f_X1_hasRoom N t k (x2 - x1)).bind (fun q5 => if q5.1 = 0 then f_X1_copy_35 N q5.2.1 q5.2.2 else if x1 < 0 ∨ (q5.2.1 6 0) < 0 ∨ (x2 - x1) < 0 ∨ 30000 < (x1).toNatClampNeg + ((x2 - x1)).toNatClampNeg ∨ 30000 < ((q5.2.1 6 0)).toNatClampNeg + ((x2 - x1)).toNatClampNeg then none else bnd (upR q5.2.1 0 (va_cpy (q5.2.1 0) (q5.2.1 0) (x1).toNatClampNeg ((q5.2.1 6 0)).toNatClampNeg ((x2 - x1)).toNatClampNeg)) (fun t7 => if x1 < 0 ∨ (t7 6 0) < 0 ∨ (x2 - x1) < 0 ∨ 30000 < (x1).toNatClampNeg + ((x2 - x1)).toNatClampNeg ∨ 30000 < ((t7 6 0)).toNatClampNeg + ((x2 - x1)).toNatClampNeg then none else bnd (upR t7 1 (va_cpy (t7 1) (t7 1) (x1).toNatClampNeg ((t7 6 0)).toNatClampNeg ((x2 - x1)).toNatClampNeg)) (fun t8 => bnd (up2 t8 6 0 ((t8 6 0) + (x2 - x1))) (fun t9 => some (t9, q5.2.2))))) else f_X1_copy_35 N t k
abbrev KP_X1_copy_35 (p : Program) (l : Launch) (e : Env) (s : State) (m : MethodId) (args : Array Value) (below : List Frame) (meth : Method) (c : Code) (D : va_G) (cI cZ : ClassId) (a1 a3 : Nat → Nat) (A : Nat → Prop) (u1 : St × St) (K : St → St → Option (St × St)) : Prop := ∀ (t k : St) (H : Heap) (locs : List Loc) (ls : Array Slot), va_P D vwCl (wX1 a1 a3 cI cZ (t, k)) H → va_D A (wX1 a1 a3 cI cZ (t, k)) → va_S A s.heap H locs → lv_has ls 4 [(0, .ref (a1 0))] → K t k = some u1 → W p l e ({ frames := 3, cells := 0, slots := 0, locals := 63 } : Room) s m args below meth c H locs 0 0 (QV below args s D cI cZ (wX1 a1 a3 cI cZ) A u1) (F0 m 35 ls [])
set_option maxHeartbeats 4000000 in
set_option maxRecDepth 100000 in
theorem k_X1_copy_35 {p : Program} {l : Launch} {e : Env} {s : State} {m : MethodId} {args : Array Value} {below : List Frame} {meth : Method} {c : Code} {D : va_G} {cI cZ : ClassId} {a1 a3 : Nat → Nat} {A : Nat → Prop} {u1 : St × St} (C0 : mB p s m args meth c D cI cZ A cX1_copy 4 none wsX1_copy RX1) (N : Nat) : KP_X1_copy_35 p l e s m args below meth c D cI cZ a1 a3 A u1 (f_X1_copy_35 N) := by
  obtain ⟨hx, hb, hml, hr, hown, hts, hlocks, hA, hK, hN⟩ := id C0
  intro t k H locs ls hP hD hS hl h
  unfold f_X1_copy_35 at h
  refine lv_aload_n hx hb dX1_copy_35 rfl (lv_at hl 0 rfl) ?_
  refine lv_iconst (v := 1) hx hb dX1_copy_36 rfl ?_
  refine va_put (D := D) (ci := 1) (v := .int 1) (ty := .boolean) (C := RX1) (T := TX1) (N := 8) hx hb hts in_X1_copy_X1 tyX1 tyX1_ok nmX1 hown hK hP hD hS 0 rfl rfl 7 (by decide) (hts (.fieldLink RX1 55 "TermLoom$TermStore" "failed" "Z") (by decide +kernel)) (fun _ h9 => h9) rfl (by decide +kernel) rfl rfl (Nat.le_of_ble_eq_true rfl) dX1_copy_37 (fun H locs hP hD hS => ?_)
  obtain ⟨t1, et1, h⟩ := bn h
  have hP : va_P D vwCl (wX1 a1 a3 cI cZ (t1, k)) H := by rw [et1]; exact hP
  have hD : va_D A (wX1 a1 a3 cI cZ (t1, k)) := by rw [et1]; exact hD
  obtain rfl := so1 h
  exact ret_v C0 hP hD hS dX1_copy_40
set_option maxHeartbeats 4000000 in
set_option maxRecDepth 100000 in
theorem c_X1_copy (l : Launch) (D : va_G) (cI cZ : ClassId) (a1 a3 : Nat → Nat) (N : Nat) (t k : St) (x1 x2 : Int32) : MV l yX1_copy wsX1_copy ({ frames := 3, cells := 0, slots := 0, locals := 63 } : Room) D cI cZ (wX1 a1 a3 cI cZ) [.ref (a1 0), .int x1, .int x2] (t, k) (f_X1_copy N t k x1 x2) := by
  refine MV.of (cc := cX1_copy) (maxL := 4) (ret := none) (own := RX1) (by decide) rfl rfl (Nat.le_of_ble_eq_true rfl) ?_
  intro u1 h p e s m args below meth c A C0 H locs ls hP hD hS hl
  obtain ⟨hx, hb, hml, hr, hown, hts, hlocks, hA, hK, hN⟩ := id C0
  have hl : lv_has ls 4 [(0, .ref (a1 0)), (1, .int x1), (2, .int x2)] := hl
  unfold f_X1_copy at h
  refine lv_iload_n hx hb dX1_copy_0 rfl (lv_at hl 2 rfl) ?_
  refine lv_iload_n hx hb dX1_copy_1 rfl (lv_at hl 1 rfl) ?_
  refine lv_isub hx hb dX1_copy_2 ?_
  refine lv_istore_n (lv' := [(3, .int (x2 - x1)), (0, .ref (a1 0)), (1, .int x1), (2, .int x2)]) hx hb dX1_copy_3 rfl hl (by decide) rfl (fun ls hl => ?_)
  refine lv_aload_n hx hb dX1_copy_4 rfl (lv_at hl 1 rfl) ?_
  refine va_get (D := D) (ci := 1) (v := .int (t 7 0)) (C := RX1) (T := TX1) (N := 8) hx hb hts in_X1_copy_X1 hown hK hP 0 rfl rfl 7 (by decide) (hts (.fieldLink RX1 55 "TermLoom$TermStore" "failed" "Z") (by decide +kernel)) (fun _ h9 => h9) rfl dX1_copy_5 ?_
  refine lv_if_ne (tgt := 35) hx hb dX1_copy_8 (by decide) (fun hc1 => ?_) (fun hc1 => ?_)
  · rw [if_neg hc1] at h
    exact k_X1_copy_35 C0 N t k _ _ _ hP hD hS (lv_sub hl [1] rfl) h
  · rw [if_pos hc1] at h
    refine lv_iload_n hx hb dX1_copy_11 rfl (lv_at hl 2 rfl) ?_
    refine lv_if_lt (tgt := 35) hx hb dX1_copy_12 (by decide) (fun hc2 => ?_) (fun hc2 => ?_)
    · rw [if_pos hc2] at h
      exact k_X1_copy_35 C0 N t k _ _ _ hP hD hS (lv_sub hl [1] rfl) h
    · rw [if_neg hc2] at h
      refine lv_iload_n hx hb dX1_copy_15 rfl (lv_at hl 0 rfl) ?_
      refine lv_if_lt (tgt := 35) hx hb dX1_copy_16 (by decide) (fun hc3 => ?_) (fun hc3 => ?_)
      · rw [if_pos hc3] at h
        exact k_X1_copy_35 C0 N t k _ _ _ hP hD hS (lv_sub hl [1] rfl) h
      · rw [if_neg hc3] at h
        refine lv_iload_n hx hb dX1_copy_19 rfl (lv_at hl 3 rfl) ?_
        refine lv_aload_n hx hb dX1_copy_20 rfl (lv_at hl 1 rfl) ?_
        refine va_get (D := D) (ci := 1) (v := .int (t 6 0)) (C := RX1) (T := TX1) (N := 8) hx hb hts in_X1_copy_X1 hown hK hP 0 rfl rfl 6 (by decide) (hts (.fieldLink RX1 52 "TermLoom$TermStore" "tail" "I") (by decide +kernel)) (fun _ h9 => h9) rfl dX1_copy_21 ?_
        refine lv_icmp_gt (tgt := 35) hx hb dX1_copy_24 (by decide) (fun hc4 => ?_) (fun hc4 => ?_)
        · rw [if_pos hc4] at h
          exact k_X1_copy_35 C0 N t k _ _ _ hP hD hS (lv_sub hl [1] rfl) h
        · rw [if_neg hc4] at h
          refine lv_aload_n hx hb dX1_copy_27 rfl (lv_at hl 1 rfl) ?_
          refine lv_iload_n hx hb dX1_copy_28 rfl (lv_at hl 0 rfl) ?_
          obtain ⟨q5, hq5, h⟩ := ob h
          refine mc_i (ws' := wX1 a1 a3 cI cZ (q5.2.1, q5.2.2)) (wr := ([] : va_W)) [0, 1, 2, 3, 4, 5, 6, 7] [] [0, 1, 2, 3, 4, 5, 6, 7] (va_runV (As := [.int (x2 - x1)]) (rest := []) ⟨hx, hb, hml, hown, hts⟩ (c_X1_hasRoom l D cI cZ a1 a3 N t k (x2 - x1) q5.1 q5.2 hq5 H.size) (cwV 1 hts gX1_copy_X1_hasRoom rfl rfl rfl (by decide +kernel) ⟨Nat.le_of_ble_eq_true rfl, Nat.le_of_ble_eq_true rfl⟩) (pV [0, 1, 2, 3, 4, 5, 6, 7] hP hD hK hN rfl rfl rfl rfl) rfl rfl hl.1 rfl (lv_room (Nat.le_of_ble_eq_true rfl)) dX1_copy_29 ⟨Nat.le_of_ble_eq_true rfl, Nat.le_of_ble_eq_true rfl⟩) hP hD hS hA rfl rfl rfl (by decide) rfl rfl (fun H locs hP hD hS => ?_)
          refine lv_if_ne (tgt := 41) hx hb dX1_copy_32 (by decide) (fun hc6 => ?_) (fun hc6 => ?_)
          · rw [if_neg hc6] at h
            refine lv_aload_n hx hb dX1_copy_41 rfl (lv_at hl 1 rfl) ?_
            refine va_get (D := D) (ci := 1) (v := .ref (a1 1)) (C := RX1) (T := TX1) (N := 8) hx hb hts in_X1_copy_X1 hown hK hP 0 rfl rfl 0 (by decide) (hts (.fieldLink RX1 9 "TermLoom$TermStore" "codes" "[I") (by decide +kernel)) (fun _ h9 => h9) rfl dX1_copy_42 ?_
            refine lv_iload_n hx hb dX1_copy_45 rfl (lv_at hl 2 rfl) ?_
            refine lv_aload_n hx hb dX1_copy_46 rfl (lv_at hl 1 rfl) ?_
            refine va_get (D := D) (ci := 1) (v := .ref (a1 1)) (C := RX1) (T := TX1) (N := 8) hx hb hts in_X1_copy_X1 hown hK hP 0 rfl rfl 0 (by decide) (hts (.fieldLink RX1 9 "TermLoom$TermStore" "codes" "[I") (by decide +kernel)) (fun _ h9 => h9) rfl dX1_copy_47 ?_
            refine lv_aload_n hx hb dX1_copy_50 rfl (lv_at hl 1 rfl) ?_
            refine va_get (D := D) (ci := 1) (v := .int (q5.2.1 6 0)) (C := RX1) (T := TX1) (N := 8) hx hb hts in_X1_copy_X1 hown hK hP 0 rfl rfl 6 (by decide) (hts (.fieldLink RX1 52 "TermLoom$TermStore" "tail" "I") (by decide +kernel)) (fun _ h9 => h9) rfl dX1_copy_51 ?_
            refine lv_iload_n hx hb dX1_copy_54 rfl (lv_at hl 0 rfl) ?_
            by_cases hi : x1 < 0 ∨ (q5.2.1 6 0) < 0 ∨ (x2 - x1) < 0 ∨ 30000 < (x1).toNatClampNeg + ((x2 - x1)).toNatClampNeg ∨ 30000 < ((q5.2.1 6 0)).toNatClampNeg + ((x2 - x1)).toNatClampNeg
            · rw [if_pos hi] at h; exact no h
            rw [if_neg hi] at h
            simp only [not_or] at hi
            refine va_copyi (f := (q5.2.1 0)) (g := (q5.2.1 0)) (ty := .int) hx hb (by rw [hml]; exact hl.1.symm) hown (hts (.methodLink RX1 63 arraycopyName) (by decide +kernel)) (hts (.native arraycopyName) (by decide +kernel)) (hts (.static arraycopyName) (by decide +kernel)) (hts (.initialized "java/lang/System") (by decide +kernel)) hK hP hD hS 1 1 0 0 rfl rfl rfl rfl rfl hi.1 hi.2.1 hi.2.2.1 (Nat.le_of_not_lt hi.2.2.2.1) (Nat.le_of_not_lt hi.2.2.2.2) (fun _ _ => rfl) (Nat.le_of_ble_eq_true rfl) (by decide) dX1_copy_55 (fun H locs hP hD hS => ?_)
            obtain ⟨t7, et7, h⟩ := bn h
            have hP : va_P D vwCl (wX1 a1 a3 cI cZ (t7, q5.2.2)) H := by rw [et7]; exact hP
            have hD : va_D A (wX1 a1 a3 cI cZ (t7, q5.2.2)) := by rw [et7]; exact hD
            refine lv_aload_n hx hb dX1_copy_58 rfl (lv_at hl 1 rfl) ?_
            refine va_get (D := D) (ci := 1) (v := .ref (a1 2)) (C := RX1) (T := TX1) (N := 8) hx hb hts in_X1_copy_X1 hown hK hP 0 rfl rfl 1 (by decide) (hts (.fieldLink RX1 15 "TermLoom$TermStore" "symbolTypes" "[I") (by decide +kernel)) (fun _ h9 => h9) rfl dX1_copy_59 ?_
            refine lv_iload_n hx hb dX1_copy_62 rfl (lv_at hl 2 rfl) ?_
            refine lv_aload_n hx hb dX1_copy_63 rfl (lv_at hl 1 rfl) ?_
            refine va_get (D := D) (ci := 1) (v := .ref (a1 2)) (C := RX1) (T := TX1) (N := 8) hx hb hts in_X1_copy_X1 hown hK hP 0 rfl rfl 1 (by decide) (hts (.fieldLink RX1 15 "TermLoom$TermStore" "symbolTypes" "[I") (by decide +kernel)) (fun _ h9 => h9) rfl dX1_copy_64 ?_
            refine lv_aload_n hx hb dX1_copy_67 rfl (lv_at hl 1 rfl) ?_
            refine va_get (D := D) (ci := 1) (v := .int (t7 6 0)) (C := RX1) (T := TX1) (N := 8) hx hb hts in_X1_copy_X1 hown hK hP 0 rfl rfl 6 (by decide) (hts (.fieldLink RX1 52 "TermLoom$TermStore" "tail" "I") (by decide +kernel)) (fun _ h9 => h9) rfl dX1_copy_68 ?_
            refine lv_iload_n hx hb dX1_copy_71 rfl (lv_at hl 0 rfl) ?_
            by_cases hi : x1 < 0 ∨ (t7 6 0) < 0 ∨ (x2 - x1) < 0 ∨ 30000 < (x1).toNatClampNeg + ((x2 - x1)).toNatClampNeg ∨ 30000 < ((t7 6 0)).toNatClampNeg + ((x2 - x1)).toNatClampNeg
            · rw [if_pos hi] at h; exact no h
            rw [if_neg hi] at h
            simp only [not_or] at hi
            refine va_copyi (f := (t7 1)) (g := (t7 1)) (ty := .int) hx hb (by rw [hml]; exact hl.1.symm) hown (hts (.methodLink RX1 63 arraycopyName) (by decide +kernel)) (hts (.native arraycopyName) (by decide +kernel)) (hts (.static arraycopyName) (by decide +kernel)) (hts (.initialized "java/lang/System") (by decide +kernel)) hK hP hD hS 2 2 0 0 rfl rfl rfl rfl rfl hi.1 hi.2.1 hi.2.2.1 (Nat.le_of_not_lt hi.2.2.2.1) (Nat.le_of_not_lt hi.2.2.2.2) (fun _ _ => rfl) (Nat.le_of_ble_eq_true rfl) (by decide) dX1_copy_72 (fun H locs hP hD hS => ?_)
            obtain ⟨t8, et8, h⟩ := bn h
            have hP : va_P D vwCl (wX1 a1 a3 cI cZ (t8, q5.2.2)) H := by rw [et8]; exact hP
            have hD : va_D A (wX1 a1 a3 cI cZ (t8, q5.2.2)) := by rw [et8]; exact hD
            refine lv_aload_n hx hb dX1_copy_75 rfl (lv_at hl 1 rfl) ?_
            refine lv_dup hx hb dX1_copy_76 rfl ?_
            refine va_get (D := D) (ci := 1) (v := .int (t8 6 0)) (C := RX1) (T := TX1) (N := 8) hx hb hts in_X1_copy_X1 hown hK hP 0 rfl rfl 6 (by decide) (hts (.fieldLink RX1 52 "TermLoom$TermStore" "tail" "I") (by decide +kernel)) (fun _ h9 => h9) rfl dX1_copy_77 ?_
            refine lv_iload_n hx hb dX1_copy_80 rfl (lv_at hl 0 rfl) ?_
            refine lv_iadd hx hb dX1_copy_81 ?_
            refine va_put (D := D) (ci := 1) (v := .int ((t8 6 0) + (x2 - x1))) (ty := .int) (C := RX1) (T := TX1) (N := 8) hx hb hts in_X1_copy_X1 tyX1 tyX1_ok nmX1 hown hK hP hD hS 0 rfl rfl 6 (by decide) (hts (.fieldLink RX1 52 "TermLoom$TermStore" "tail" "I") (by decide +kernel)) (fun _ h9 => h9) rfl (by decide +kernel) rfl rfl (Nat.le_of_ble_eq_true rfl) dX1_copy_82 (fun H locs hP hD hS => ?_)
            obtain ⟨t9, et9, h⟩ := bn h
            have hP : va_P D vwCl (wX1 a1 a3 cI cZ (t9, q5.2.2)) H := by rw [et9]; exact hP
            have hD : va_D A (wX1 a1 a3 cI cZ (t9, q5.2.2)) := by rw [et9]; exact hD
            obtain rfl := so1 h
            exact ret_v C0 hP hD hS dX1_copy_85
          · rw [if_pos hc6] at h
            exact k_X1_copy_35 C0 N q5.2.1 q5.2.2 _ _ _ hP hD hS (lv_sub hl [1] rfl) h

theorem in_X1_heightOf_X1 : ∀ w ∈ u_ws RX1 TX1 8, w ∈ wsX1_heightOf := by decide +kernel
def f_X1_heightOf_55 (N : Nat) (t k : St) (x3 : Int32) : Option (Int32 × (St × St)) := some (x3, (t, k))
def f_X1_heightOf_12 (N : Nat) : Nat → St → St → Int32 → Int32 → Int32 → Option (Int32 × (St × St))
  | 0, _, _, _, _, _ => none
  | n + 1, t, k, x2, x3, x4 => if x2 ≤ x4 then f_X1_heightOf_55 N t k x3 else if 120 < x3 then f_X1_heightOf_55 N t k x3 else (f_X3_depth N k).bind (fun q3 => (f_X1_code N t q3.2 x4).bind (fun q4 => (f_X3_pass N q4.2.2 q4.1).bind (fun q5 => f_X1_heightOf_12 N n q4.2.1 q5 x2 (if x3 < q3.1 then q3.1 else x3) (x4 + 1))))
def f_X1_heightOf (N : Nat) (t k : St) (x1 x2 : Int32) : Option (Int32 × (St × St)) := (f_X3_begin N k).bind (fun q1 => f_X1_heightOf_12 N N t q1 x2 0 x1)
abbrev KP_X1_heightOf_55 (p : Program) (l : Launch) (e : Env) (s : State) (m : MethodId) (args : Array Value) (below : List Frame) (meth : Method) (c : Code) (D : va_G) (cI cZ : ClassId) (a1 a3 : Nat → Nat) (A : Nat → Prop) (r : Int32) (u1 : St × St) (K : St → St → Int32 → Option (Int32 × (St × St))) : Prop := ∀ (t k : St) (x3 : Int32) (H : Heap) (locs : List Loc) (ls : Array Slot), va_P D vwCl (wX1 a1 a3 cI cZ (t, k)) H → va_D A (wX1 a1 a3 cI cZ (t, k)) → va_S A s.heap H locs → lv_has ls 5 [(3, .int x3)] → K t k x3 = some (r, u1) → W p l e ({ frames := 3, cells := 0, slots := 0, locals := 62 } : Room) s m args below meth c H locs 0 0 (QI below args s D cI cZ (wX1 a1 a3 cI cZ) A r u1) (F0 m 55 ls [])
abbrev KP_X1_heightOf_12 (p : Program) (l : Launch) (e : Env) (s : State) (m : MethodId) (args : Array Value) (below : List Frame) (meth : Method) (c : Code) (D : va_G) (cI cZ : ClassId) (a1 a3 : Nat → Nat) (A : Nat → Prop) (r : Int32) (u1 : St × St) (K : St → St → Int32 → Int32 → Int32 → Option (Int32 × (St × St))) : Prop := ∀ (t k : St) (x2 x3 x4 : Int32) (H : Heap) (locs : List Loc) (ls : Array Slot), va_P D vwCl (wX1 a1 a3 cI cZ (t, k)) H → va_D A (wX1 a1 a3 cI cZ (t, k)) → va_S A s.heap H locs → lv_has ls 5 [(0, .ref (a1 0)), (2, .int x2), (3, .int x3), (4, .int x4)] → K t k x2 x3 x4 = some (r, u1) → W p l e ({ frames := 3, cells := 0, slots := 0, locals := 62 } : Room) s m args below meth c H locs 0 0 (QI below args s D cI cZ (wX1 a1 a3 cI cZ) A r u1) (F0 m 12 ls [])
set_option maxHeartbeats 4000000 in
set_option maxRecDepth 100000 in
theorem k_X1_heightOf_55 {p : Program} {l : Launch} {e : Env} {s : State} {m : MethodId} {args : Array Value} {below : List Frame} {meth : Method} {c : Code} {D : va_G} {cI cZ : ClassId} {a1 a3 : Nat → Nat} {A : Nat → Prop} {r : Int32} {u1 : St × St} (C0 : mB p s m args meth c D cI cZ A cX1_heightOf 5 (some .int) wsX1_heightOf RX1) (N : Nat) : KP_X1_heightOf_55 p l e s m args below meth c D cI cZ a1 a3 A r u1 (f_X1_heightOf_55 N) := by
  obtain ⟨hx, hb, hml, hr, hown, hts, hlocks, hA, hK, hN⟩ := id C0
  intro t k x3 H locs ls hP hD hS hl h
  unfold f_X1_heightOf_55 at h
  refine lv_iload_n hx hb dX1_heightOf_55 rfl (lv_at hl 0 rfl) ?_
  obtain ⟨rfl, rfl⟩ := so h
  exact ret_i C0 hP hD hS dX1_heightOf_56
set_option maxHeartbeats 4000000 in
set_option maxRecDepth 100000 in
theorem k_X1_heightOf_12 {p : Program} {l : Launch} {e : Env} {s : State} {m : MethodId} {args : Array Value} {below : List Frame} {meth : Method} {c : Code} {D : va_G} {cI cZ : ClassId} {a1 a3 : Nat → Nat} {A : Nat → Prop} {r : Int32} {u1 : St × St} (C0 : mB p s m args meth c D cI cZ A cX1_heightOf 5 (some .int) wsX1_heightOf RX1) (N : Nat) : ∀ n : Nat, KP_X1_heightOf_12 p l e s m args below meth c D cI cZ a1 a3 A r u1 (f_X1_heightOf_12 N n) := by
  obtain ⟨hx, hb, hml, hr, hown, hts, hlocks, hA, hK, hN⟩ := id C0
  intro n
  induction n with
  | zero =>
    intro t k x2 x3 x4 H locs ls hP hD hS hl h
    exact no (show (none : Option (Int32 × (St × St))) = _ from h)
  | succ n ih =>
    intro t k x2 x3 x4 H locs ls hP hD hS hl h
    rw [f_X1_heightOf_12] at h
    refine lv_iload hx hb dX1_heightOf_12 (lv_at hl 3 rfl) ?_
    refine lv_iload_n hx hb dX1_heightOf_14 rfl (lv_at hl 1 rfl) ?_
    refine lv_icmp_ge (tgt := 55) hx hb dX1_heightOf_15 (by decide) (fun hc1 => ?_) (fun hc1 => ?_)
    · rw [if_pos hc1] at h
      exact k_X1_heightOf_55 C0 N t k x3 _ _ _ hP hD hS (lv_sub hl [2] rfl) h
    · rw [if_neg hc1] at h
      refine lv_iload_n hx hb dX1_heightOf_18 rfl (lv_at hl 2 rfl) ?_
      refine lv_bipush (v := 120) hx hb dX1_heightOf_19 rfl ?_
      refine lv_icmp_gt (tgt := 55) hx hb dX1_heightOf_21 (by decide) (fun hc2 => ?_) (fun hc2 => ?_)
      · rw [if_pos hc2] at h
        exact k_X1_heightOf_55 C0 N t k x3 _ _ _ hP hD hS (lv_sub hl [2] rfl) h
      · rw [if_neg hc2] at h
        refine lv_iload_n hx hb dX1_heightOf_24 rfl (lv_at hl 2 rfl) ?_
        refine lv_aload_n hx hb dX1_heightOf_25 rfl (lv_at hl 0 rfl) ?_
        refine va_get (D := D) (ci := 1) (v := .ref (a3 0)) (C := RX1) (T := TX1) (N := 8) hx hb hts in_X1_heightOf_X1 hown hK hP 0 rfl rfl 4 (by decide) (hts (.fieldLink RX1 27 "TermLoom$TermStore" "walk" "LTermLoom$Walk;") (by decide +kernel)) (fun _ h9 => h9) rfl dX1_heightOf_26 ?_
        obtain ⟨q3, hq3, h⟩ := ob h
        refine mc_i (ws' := wX1 a1 a3 cI cZ (t, q3.2)) (wr := ((wX1o a1 a3 cI cZ t) : va_W)) [5, 6, 7] [0, 1, 2, 3, 4] [0, 1, 2, 3, 4, 5, 6, 7] (va_runV (As := []) (rest := [.int x3]) ⟨hx, hb, hml, hown, hts⟩ (c_X3_depth l D cI cZ a3 N k q3.1 q3.2 hq3 H.size) (cwV 0 hts gX1_heightOf_X3_depth rfl rfl rfl (by decide +kernel) ⟨Nat.le_of_ble_eq_true rfl, Nat.le_of_ble_eq_true rfl⟩) (pV [5, 6, 7] hP hD hK hN rfl rfl rfl rfl) rfl rfl hl.1 rfl (lv_room (Nat.le_of_ble_eq_true rfl)) dX1_heightOf_29 ⟨Nat.le_of_ble_eq_true rfl, Nat.le_of_ble_eq_true rfl⟩) hP hD hS hA rfl rfl rfl (by decide) rfl rfl (fun H locs hP hD hS => ?_)
        refine va_mmax hx hb (by rw [hml]; exact hl.1.symm) hown (hts (.methodLink RX1 80 Lib.Math.max.name) (by decide +kernel)) (hts (.static Lib.Math.max.name) (by decide +kernel)) (hts (.initialized "java/lang/Math") (by decide +kernel)) (hts (.code Lib.Math.max.name Lib.Math.max.code 2 (some .int)) (by decide +kernel)) (Nat.le_of_ble_eq_true rfl) (Nat.le_of_ble_eq_true rfl) (Nat.zero_le _) (Nat.zero_le _) dX1_heightOf_32 ?_
        refine lv_istore_n (lv' := [(3, .int (if x3 < q3.1 then q3.1 else x3)), (0, .ref (a1 0)), (2, .int x2), (4, .int x4)]) hx hb dX1_heightOf_35 rfl hl (by decide) rfl (fun ls hl => ?_)
        refine lv_aload_n hx hb dX1_heightOf_36 rfl (lv_at hl 1 rfl) ?_
        refine va_get (D := D) (ci := 1) (v := .ref (a3 0)) (C := RX1) (T := TX1) (N := 8) hx hb hts in_X1_heightOf_X1 hown hK hP 0 rfl rfl 4 (by decide) (hts (.fieldLink RX1 27 "TermLoom$TermStore" "walk" "LTermLoom$Walk;") (by decide +kernel)) (fun _ h9 => h9) rfl dX1_heightOf_37 ?_
        refine lv_aload_n hx hb dX1_heightOf_40 rfl (lv_at hl 1 rfl) ?_
        refine lv_iload hx hb dX1_heightOf_41 (lv_at hl 3 rfl) ?_
        obtain ⟨q4, hq4, h⟩ := ob h
        refine mc_i (ws' := wX1 a1 a3 cI cZ (q4.2.1, q4.2.2)) (wr := ([] : va_W)) [0, 1, 2, 3, 4, 5, 6, 7] [] [0, 1, 2, 3, 4, 5, 6, 7] (va_runV (As := [.int x4]) (rest := [.ref (a3 0)]) ⟨hx, hb, hml, hown, hts⟩ (c_X1_code l D cI cZ a1 a3 N t q3.2 x4 q4.1 q4.2 hq4 H.size) (cwV 1 hts gX1_heightOf_X1_code rfl rfl rfl (by decide +kernel) ⟨Nat.le_of_ble_eq_true rfl, Nat.le_of_ble_eq_true rfl⟩) (pV [0, 1, 2, 3, 4, 5, 6, 7] hP hD hK hN rfl rfl rfl rfl) rfl rfl hl.1 rfl (lv_room (Nat.le_of_ble_eq_true rfl)) dX1_heightOf_43 ⟨Nat.le_of_ble_eq_true rfl, Nat.le_of_ble_eq_true rfl⟩) hP hD hS hA rfl rfl rfl (by decide) rfl rfl (fun H locs hP hD hS => ?_)
        obtain ⟨q5, hq5, h⟩ := ob h
        refine mc_v (ws' := wX1 a1 a3 cI cZ (q4.2.1, q5)) (wr := ((wX1o a1 a3 cI cZ q4.2.1) : va_W)) [5, 6, 7] [0, 1, 2, 3, 4] [0, 1, 2, 3, 4, 5, 6, 7] (va_runV (As := [.int q4.1]) (rest := []) ⟨hx, hb, hml, hown, hts⟩ (c_X3_pass l D cI cZ a3 N q4.2.2 q4.1 q5 hq5 H.size) (cwV 1 hts gX1_heightOf_X3_pass rfl rfl rfl (by decide +kernel) ⟨Nat.le_of_ble_eq_true rfl, Nat.le_of_ble_eq_true rfl⟩) (pV [5, 6, 7] hP hD hK hN rfl rfl rfl rfl) rfl rfl hl.1 rfl (lv_room (Nat.le_of_ble_eq_true rfl)) dX1_heightOf_46 ⟨Nat.le_of_ble_eq_true rfl, Nat.le_of_ble_eq_true rfl⟩) hP hD hS hA rfl rfl rfl (by decide) rfl rfl (fun H locs hP hD hS => ?_)
        refine lv_iinc (v := (x4 + 1)) (lv' := [(4, .int (x4 + 1)), (3, .int (if x3 < q3.1 then q3.1 else x3)), (0, .ref (a1 0)), (2, .int x2)]) hx hb dX1_heightOf_49 hl (k := 3) rfl rfl (by decide) rfl (fun ls hl => ?_)
        refine lv_goto (tgt := 12) hx hb dX1_heightOf_52 (by decide) ?_
        exact ih q4.2.1 q5 x2 (if x3 < q3.1 then q3.1 else x3) (x4 + 1) _ _ _ hP hD hS (lv_sub hl [2, 3, 1, 0] rfl) h
set_option maxHeartbeats 4000000 in
set_option maxRecDepth 100000 in
theorem c_X1_heightOf (l : Launch) (D : va_G) (cI cZ : ClassId) (a1 a3 : Nat → Nat) (N : Nat) (t k : St) (x1 x2 : Int32) : MI l yX1_heightOf wsX1_heightOf ({ frames := 3, cells := 0, slots := 0, locals := 62 } : Room) D cI cZ (wX1 a1 a3 cI cZ) [.ref (a1 0), .int x1, .int x2] (t, k) (f_X1_heightOf N t k x1 x2) := by
  refine MI.of (cc := cX1_heightOf) (maxL := 5) (ret := (some .int)) (own := RX1) (by decide) rfl rfl (Nat.le_of_ble_eq_true rfl) ?_
  intro r u1 h p e s m args below meth c A C0 H locs ls hP hD hS hl
  obtain ⟨hx, hb, hml, hr, hown, hts, hlocks, hA, hK, hN⟩ := id C0
  have hl : lv_has ls 5 [(0, .ref (a1 0)), (1, .int x1), (2, .int x2)] := hl
  unfold f_X1_heightOf at h
  refine lv_iconst (v := 0) hx hb dX1_heightOf_0 rfl ?_
  refine lv_istore_n (lv' := [(3, .int 0), (0, .ref (a1 0)), (1, .int x1), (2, .int x2)]) hx hb dX1_heightOf_1 rfl hl (by decide) rfl (fun ls hl => ?_)
  refine lv_aload_n hx hb dX1_heightOf_2 rfl (lv_at hl 1 rfl) ?_
  refine va_get (D := D) (ci := 1) (v := .ref (a3 0)) (C := RX1) (T := TX1) (N := 8) hx hb hts in_X1_heightOf_X1 hown hK hP 0 rfl rfl 4 (by decide) (hts (.fieldLink RX1 27 "TermLoom$TermStore" "walk" "LTermLoom$Walk;") (by decide +kernel)) (fun _ h9 => h9) rfl dX1_heightOf_3 ?_
  obtain ⟨q1, hq1, h⟩ := ob h
  refine mc_v (ws' := wX1 a1 a3 cI cZ (t, q1)) (wr := ((wX1o a1 a3 cI cZ t) : va_W)) [5, 6, 7] [0, 1, 2, 3, 4] [0, 1, 2, 3, 4, 5, 6, 7] (va_runV (As := []) (rest := []) ⟨hx, hb, hml, hown, hts⟩ (c_X3_begin l D cI cZ a3 N k q1 hq1 H.size) (cwV 0 hts gX1_heightOf_X3_begin rfl rfl rfl (by decide +kernel) ⟨Nat.le_of_ble_eq_true rfl, Nat.le_of_ble_eq_true rfl⟩) (pV [5, 6, 7] hP hD hK hN rfl rfl rfl rfl) rfl rfl hl.1 rfl (lv_room (Nat.le_of_ble_eq_true rfl)) dX1_heightOf_6 ⟨Nat.le_of_ble_eq_true rfl, Nat.le_of_ble_eq_true rfl⟩) hP hD hS hA rfl rfl rfl (by decide) rfl rfl (fun H locs hP hD hS => ?_)
  refine lv_iload_n hx hb dX1_heightOf_9 rfl (lv_at hl 2 rfl) ?_
  refine lv_istore (lv' := [(4, .int x1), (3, .int 0), (0, .ref (a1 0)), (1, .int x1), (2, .int x2)]) hx hb dX1_heightOf_10 hl (by decide) rfl (fun ls hl => ?_)
  exact k_X1_heightOf_12 C0 N N t q1 x2 0 x1 _ _ _ hP hD hS (lv_sub hl [2, 4, 1, 0] rfl) h

theorem in_X1_keep_X1 : ∀ w ∈ u_ws RX1 TX1 8, w ∈ wsX1_keep := by decide +kernel
def f_X1_keep_24 (N : Nat) (t k : St) : Option (Int32 × (St × St)) := some ((-1), (t, k))
def f_X1_keep (N : Nat) (t k : St) : Option (Int32 × (St × St)) := if (t 7 0) = 0 then if (t 5 0) < 0 then f_X1_keep_24 N t k else if (t 5 0) < 512 then (f_X1_start N t k (t 5 0)).bind (fun q4 => (f_X1_heightOf N q4.2.1 q4.2.2 q4.1 (q4.2.1 6 0)).bind (fun q5 => if q5.1 ≤ 120 then if (q5.2.1 5 0) < 0 ∨ 512 ≤ ((q5.2.1 5 0)).toNatClampNeg then none else bnd (up2 q5.2.1 3 ((q5.2.1 5 0)).toNatClampNeg q5.1) (fun t7 => bnd (up2 t7 5 0 ((t7 5 0) + 1)) (fun t8 => if (t8 5 0) < 0 ∨ 513 ≤ ((t8 5 0)).toNatClampNeg then none else bnd (up2 t8 2 ((t8 5 0)).toNatClampNeg (t8 6 0)) (fun t9 => some (((t9 5 0) - 1), (t9, q5.2.2))))) else some ((-1), (q5.2.1, q5.2.2)))) else f_X1_keep_24 N t k else f_X1_keep_24 N t k
abbrev KP_X1_keep_24 (p : Program) (l : Launch) (e : Env) (s : State) (m : MethodId) (args : Array Value) (below : List Frame) (meth : Method) (c : Code) (D : va_G) (cI cZ : ClassId) (a1 a3 : Nat → Nat) (A : Nat → Prop) (r : Int32) (u1 : St × St) (K : St → St → Option (Int32 × (St × St))) : Prop := ∀ (t k : St) (H : Heap) (locs : List Loc) (ls : Array Slot), va_P D vwCl (wX1 a1 a3 cI cZ (t, k)) H → va_D A (wX1 a1 a3 cI cZ (t, k)) → va_S A s.heap H locs → lv_has ls 2 [] → K t k = some (r, u1) → W p l e ({ frames := 4, cells := 0, slots := 0, locals := 86 } : Room) s m args below meth c H locs 0 0 (QI below args s D cI cZ (wX1 a1 a3 cI cZ) A r u1) (F0 m 24 ls [])
set_option maxHeartbeats 4000000 in
set_option maxRecDepth 100000 in
theorem k_X1_keep_24 {p : Program} {l : Launch} {e : Env} {s : State} {m : MethodId} {args : Array Value} {below : List Frame} {meth : Method} {c : Code} {D : va_G} {cI cZ : ClassId} {a1 a3 : Nat → Nat} {A : Nat → Prop} {r : Int32} {u1 : St × St} (C0 : mB p s m args meth c D cI cZ A cX1_keep 2 (some .int) wsX1_keep RX1) (N : Nat) : KP_X1_keep_24 p l e s m args below meth c D cI cZ a1 a3 A r u1 (f_X1_keep_24 N) := by
  obtain ⟨hx, hb, hml, hr, hown, hts, hlocks, hA, hK, hN⟩ := id C0
  intro t k H locs ls hP hD hS hl h
  unfold f_X1_keep_24 at h
  refine lv_iconst (v := (-1)) hx hb dX1_keep_24 rfl ?_
  obtain ⟨rfl, rfl⟩ := so h
  exact ret_i C0 hP hD hS dX1_keep_25
set_option maxHeartbeats 4000000 in
set_option maxRecDepth 100000 in
theorem c_X1_keep (l : Launch) (D : va_G) (cI cZ : ClassId) (a1 a3 : Nat → Nat) (N : Nat) (t k : St) : MI l yX1_keep wsX1_keep ({ frames := 4, cells := 0, slots := 0, locals := 86 } : Room) D cI cZ (wX1 a1 a3 cI cZ) [.ref (a1 0)] (t, k) (f_X1_keep N t k) := by
  refine MI.of (cc := cX1_keep) (maxL := 2) (ret := (some .int)) (own := RX1) (by decide) rfl rfl (Nat.le_of_ble_eq_true rfl) ?_
  intro r u1 h p e s m args below meth c A C0 H locs ls hP hD hS hl
  obtain ⟨hx, hb, hml, hr, hown, hts, hlocks, hA, hK, hN⟩ := id C0
  have hl : lv_has ls 2 [(0, .ref (a1 0))] := hl
  unfold f_X1_keep at h
  refine lv_aload_n hx hb dX1_keep_0 rfl (lv_at hl 0 rfl) ?_
  refine va_get (D := D) (ci := 1) (v := .int (t 7 0)) (C := RX1) (T := TX1) (N := 8) hx hb hts in_X1_keep_X1 hown hK hP 0 rfl rfl 7 (by decide) (hts (.fieldLink RX1 55 "TermLoom$TermStore" "failed" "Z") (by decide +kernel)) (fun _ h9 => h9) rfl dX1_keep_1 ?_
  refine lv_if_ne (tgt := 24) hx hb dX1_keep_4 (by decide) (fun hc1 => ?_) (fun hc1 => ?_)
  · rw [if_neg hc1] at h
    exact k_X1_keep_24 C0 N t k _ _ _ hP hD hS (lv_sub hl [] rfl) h
  · rw [if_pos hc1] at h
    refine lv_aload_n hx hb dX1_keep_7 rfl (lv_at hl 0 rfl) ?_
    refine va_get (D := D) (ci := 1) (v := .int (t 5 0)) (C := RX1) (T := TX1) (N := 8) hx hb hts in_X1_keep_X1 hown hK hP 0 rfl rfl 5 (by decide) (hts (.fieldLink RX1 31 "TermLoom$TermStore" "count" "I") (by decide +kernel)) (fun _ h9 => h9) rfl dX1_keep_8 ?_
    refine lv_if_lt (tgt := 24) hx hb dX1_keep_11 (by decide) (fun hc2 => ?_) (fun hc2 => ?_)
    · rw [if_pos hc2] at h
      exact k_X1_keep_24 C0 N t k _ _ _ hP hD hS (lv_sub hl [] rfl) h
    · rw [if_neg hc2] at h
      refine lv_aload_n hx hb dX1_keep_14 rfl (lv_at hl 0 rfl) ?_
      refine va_get (D := D) (ci := 1) (v := .int (t 5 0)) (C := RX1) (T := TX1) (N := 8) hx hb hts in_X1_keep_X1 hown hK hP 0 rfl rfl 5 (by decide) (hts (.fieldLink RX1 31 "TermLoom$TermStore" "count" "I") (by decide +kernel)) (fun _ h9 => h9) rfl dX1_keep_15 ?_
      refine lv_sipush (v := 512) hx hb dX1_keep_18 rfl ?_
      refine lv_icmp_lt (tgt := 26) hx hb dX1_keep_21 (by decide) (fun hc3 => ?_) (fun hc3 => ?_)
      · rw [if_pos hc3] at h
        refine lv_aload_n hx hb dX1_keep_26 rfl (lv_at hl 0 rfl) ?_
        refine lv_aload_n hx hb dX1_keep_27 rfl (lv_at hl 0 rfl) ?_
        refine lv_aload_n hx hb dX1_keep_28 rfl (lv_at hl 0 rfl) ?_
        refine va_get (D := D) (ci := 1) (v := .int (t 5 0)) (C := RX1) (T := TX1) (N := 8) hx hb hts in_X1_keep_X1 hown hK hP 0 rfl rfl 5 (by decide) (hts (.fieldLink RX1 31 "TermLoom$TermStore" "count" "I") (by decide +kernel)) (fun _ h9 => h9) rfl dX1_keep_29 ?_
        obtain ⟨q4, hq4, h⟩ := ob h
        refine mc_i (ws' := wX1 a1 a3 cI cZ (q4.2.1, q4.2.2)) (wr := ([] : va_W)) [0, 1, 2, 3, 4, 5, 6, 7] [] [0, 1, 2, 3, 4, 5, 6, 7] (va_runV (As := [.int (t 5 0)]) (rest := [.ref (a1 0)]) ⟨hx, hb, hml, hown, hts⟩ (c_X1_start l D cI cZ a1 a3 N t k (t 5 0) q4.1 q4.2 hq4 H.size) (cwV 1 hts gX1_keep_X1_start rfl rfl rfl (by decide +kernel) ⟨Nat.le_of_ble_eq_true rfl, Nat.le_of_ble_eq_true rfl⟩) (pV [0, 1, 2, 3, 4, 5, 6, 7] hP hD hK hN rfl rfl rfl rfl) rfl rfl hl.1 rfl (lv_room (Nat.le_of_ble_eq_true rfl)) dX1_keep_32 ⟨Nat.le_of_ble_eq_true rfl, Nat.le_of_ble_eq_true rfl⟩) hP hD hS hA rfl rfl rfl (by decide) rfl rfl (fun H locs hP hD hS => ?_)
        refine lv_aload_n hx hb dX1_keep_35 rfl (lv_at hl 0 rfl) ?_
        refine va_get (D := D) (ci := 1) (v := .int (q4.2.1 6 0)) (C := RX1) (T := TX1) (N := 8) hx hb hts in_X1_keep_X1 hown hK hP 0 rfl rfl 6 (by decide) (hts (.fieldLink RX1 52 "TermLoom$TermStore" "tail" "I") (by decide +kernel)) (fun _ h9 => h9) rfl dX1_keep_36 ?_
        obtain ⟨q5, hq5, h⟩ := ob h
        refine mc_i (ws' := wX1 a1 a3 cI cZ (q5.2.1, q5.2.2)) (wr := ([] : va_W)) [0, 1, 2, 3, 4, 5, 6, 7] [] [0, 1, 2, 3, 4, 5, 6, 7] (va_runV (As := [.int q4.1, .int (q4.2.1 6 0)]) (rest := []) ⟨hx, hb, hml, hown, hts⟩ (c_X1_heightOf l D cI cZ a1 a3 N q4.2.1 q4.2.2 q4.1 (q4.2.1 6 0) q5.1 q5.2 hq5 H.size) (cwV 2 hts gX1_keep_X1_heightOf rfl rfl rfl (by decide +kernel) ⟨Nat.le_of_ble_eq_true rfl, Nat.le_of_ble_eq_true rfl⟩) (pV [0, 1, 2, 3, 4, 5, 6, 7] hP hD hK hN rfl rfl rfl rfl) rfl rfl hl.1 rfl (lv_room (Nat.le_of_ble_eq_true rfl)) dX1_keep_39 ⟨Nat.le_of_ble_eq_true rfl, Nat.le_of_ble_eq_true rfl⟩) hP hD hS hA rfl rfl rfl (by decide) rfl rfl (fun H locs hP hD hS => ?_)
        refine lv_istore_n (lv' := [(1, .int q5.1), (0, .ref (a1 0))]) hx hb dX1_keep_42 rfl hl (by decide) rfl (fun ls hl => ?_)
        refine lv_iload_n hx hb dX1_keep_43 rfl (lv_at hl 0 rfl) ?_
        refine lv_bipush (v := 120) hx hb dX1_keep_44 rfl ?_
        refine lv_icmp_le (tgt := 51) hx hb dX1_keep_46 (by decide) (fun hc6 => ?_) (fun hc6 => ?_)
        · rw [if_pos hc6] at h
          refine lv_aload_n hx hb dX1_keep_51 rfl (lv_at hl 1 rfl) ?_
          refine va_get (D := D) (ci := 1) (v := .ref (a1 4)) (C := RX1) (T := TX1) (N := 8) hx hb hts in_X1_keep_X1 hown hK hP 0 rfl rfl 3 (by decide) (hts (.fieldLink RX1 21 "TermLoom$TermStore" "heights" "[I") (by decide +kernel)) (fun _ h9 => h9) rfl dX1_keep_52 ?_
          refine lv_aload_n hx hb dX1_keep_55 rfl (lv_at hl 1 rfl) ?_
          refine va_get (D := D) (ci := 1) (v := .int (q5.2.1 5 0)) (C := RX1) (T := TX1) (N := 8) hx hb hts in_X1_keep_X1 hown hK hP 0 rfl rfl 5 (by decide) (hts (.fieldLink RX1 31 "TermLoom$TermStore" "count" "I") (by decide +kernel)) (fun _ h9 => h9) rfl dX1_keep_56 ?_
          refine lv_iload_n hx hb dX1_keep_59 rfl (lv_at hl 0 rfl) ?_
          by_cases hi : (q5.2.1 5 0) < 0 ∨ 512 ≤ ((q5.2.1 5 0)).toNatClampNeg
          · rw [if_pos hi] at h; exact no h
          rw [if_neg hi] at h
          refine va_iast (f := (q5.2.1 3)) hx hb hK hP hD hS 4 0 rfl rfl (i := (q5.2.1 5 0)) (x := q5.1) hi dX1_keep_60 (fun H locs hP hD hS => ?_)
          obtain ⟨t7, et7, h⟩ := bn h
          have hP : va_P D vwCl (wX1 a1 a3 cI cZ (t7, q5.2.2)) H := by rw [et7]; exact hP
          have hD : va_D A (wX1 a1 a3 cI cZ (t7, q5.2.2)) := by rw [et7]; exact hD
          refine lv_aload_n hx hb dX1_keep_61 rfl (lv_at hl 1 rfl) ?_
          refine lv_dup hx hb dX1_keep_62 rfl ?_
          refine va_get (D := D) (ci := 1) (v := .int (t7 5 0)) (C := RX1) (T := TX1) (N := 8) hx hb hts in_X1_keep_X1 hown hK hP 0 rfl rfl 5 (by decide) (hts (.fieldLink RX1 31 "TermLoom$TermStore" "count" "I") (by decide +kernel)) (fun _ h9 => h9) rfl dX1_keep_63 ?_
          refine lv_iconst (v := 1) hx hb dX1_keep_66 rfl ?_
          refine lv_iadd hx hb dX1_keep_67 ?_
          refine va_put (D := D) (ci := 1) (v := .int ((t7 5 0) + 1)) (ty := .int) (C := RX1) (T := TX1) (N := 8) hx hb hts in_X1_keep_X1 tyX1 tyX1_ok nmX1 hown hK hP hD hS 0 rfl rfl 5 (by decide) (hts (.fieldLink RX1 31 "TermLoom$TermStore" "count" "I") (by decide +kernel)) (fun _ h9 => h9) rfl (by decide +kernel) rfl rfl (Nat.le_of_ble_eq_true rfl) dX1_keep_68 (fun H locs hP hD hS => ?_)
          obtain ⟨t8, et8, h⟩ := bn h
          have hP : va_P D vwCl (wX1 a1 a3 cI cZ (t8, q5.2.2)) H := by rw [et8]; exact hP
          have hD : va_D A (wX1 a1 a3 cI cZ (t8, q5.2.2)) := by rw [et8]; exact hD
          refine lv_aload_n hx hb dX1_keep_71 rfl (lv_at hl 1 rfl) ?_
          refine va_get (D := D) (ci := 1) (v := .ref (a1 3)) (C := RX1) (T := TX1) (N := 8) hx hb hts in_X1_keep_X1 hown hK hP 0 rfl rfl 2 (by decide) (hts (.fieldLink RX1 18 "TermLoom$TermStore" "starts" "[I") (by decide +kernel)) (fun _ h9 => h9) rfl dX1_keep_72 ?_
          refine lv_aload_n hx hb dX1_keep_75 rfl (lv_at hl 1 rfl) ?_
          refine va_get (D := D) (ci := 1) (v := .int (t8 5 0)) (C := RX1) (T := TX1) (N := 8) hx hb hts in_X1_keep_X1 hown hK hP 0 rfl rfl 5 (by decide) (hts (.fieldLink RX1 31 "TermLoom$TermStore" "count" "I") (by decide +kernel)) (fun _ h9 => h9) rfl dX1_keep_76 ?_
          refine lv_aload_n hx hb dX1_keep_79 rfl (lv_at hl 1 rfl) ?_
          refine va_get (D := D) (ci := 1) (v := .int (t8 6 0)) (C := RX1) (T := TX1) (N := 8) hx hb hts in_X1_keep_X1 hown hK hP 0 rfl rfl 6 (by decide) (hts (.fieldLink RX1 52 "TermLoom$TermStore" "tail" "I") (by decide +kernel)) (fun _ h9 => h9) rfl dX1_keep_80 ?_
          by_cases hi : (t8 5 0) < 0 ∨ 513 ≤ ((t8 5 0)).toNatClampNeg
          · rw [if_pos hi] at h; exact no h
          rw [if_neg hi] at h
          refine va_iast (f := (t8 2)) hx hb hK hP hD hS 3 0 rfl rfl (i := (t8 5 0)) (x := (t8 6 0)) hi dX1_keep_83 (fun H locs hP hD hS => ?_)
          obtain ⟨t9, et9, h⟩ := bn h
          have hP : va_P D vwCl (wX1 a1 a3 cI cZ (t9, q5.2.2)) H := by rw [et9]; exact hP
          have hD : va_D A (wX1 a1 a3 cI cZ (t9, q5.2.2)) := by rw [et9]; exact hD
          refine lv_aload_n hx hb dX1_keep_84 rfl (lv_at hl 1 rfl) ?_
          refine va_get (D := D) (ci := 1) (v := .int (t9 5 0)) (C := RX1) (T := TX1) (N := 8) hx hb hts in_X1_keep_X1 hown hK hP 0 rfl rfl 5 (by decide) (hts (.fieldLink RX1 31 "TermLoom$TermStore" "count" "I") (by decide +kernel)) (fun _ h9 => h9) rfl dX1_keep_85 ?_
          refine lv_iconst (v := 1) hx hb dX1_keep_88 rfl ?_
          refine lv_isub hx hb dX1_keep_89 ?_
          obtain ⟨rfl, rfl⟩ := so h
          exact ret_i C0 hP hD hS dX1_keep_90
        · rw [if_neg hc6] at h
          refine lv_iconst (v := (-1)) hx hb dX1_keep_49 rfl ?_
          obtain ⟨rfl, rfl⟩ := so h
          exact ret_i C0 hP hD hS dX1_keep_50
      · rw [if_neg hc3] at h
        exact k_X1_keep_24 C0 N t k _ _ _ hP hD hS (lv_sub hl [] rfl) h

def f_X1_isVariable_31 (N : Nat) (t k : St) (s0 : Int32) : Option (Int32 × (St × St)) := if s0 = 0 ∨ s0 = 1 then some (s0, (t, k)) else none
def f_X1_isVariable_30 (N : Nat) (t k : St) : Option (Int32 × (St × St)) := f_X1_isVariable_31 N t k 0
def f_X1_isVariable (N : Nat) (t k : St) (x1 x2 : Int32) : Option (Int32 × (St × St)) := (f_X1_code N t k x1).bind (fun q1 => (f_X1_root N q1.2.1 q1.2.2 x2).bind (fun q2 => if q1.1 = q2.1 then (f_X1_symbolType N q2.2.1 q2.2.2 x1).bind (fun q4 => (f_X1_rootType N q4.2.1 q4.2.2 x2).bind (fun q5 => if q4.1 = q5.1 then f_X1_isVariable_31 N q5.2.1 q5.2.2 1 else f_X1_isVariable_30 N q5.2.1 q5.2.2)) else f_X1_isVariable_30 N q2.2.1 q2.2.2))
abbrev KP_X1_isVariable_31 (p : Program) (l : Launch) (e : Env) (s : State) (m : MethodId) (args : Array Value) (below : List Frame) (meth : Method) (c : Code) (D : va_G) (cI cZ : ClassId) (a1 a3 : Nat → Nat) (A : Nat → Prop) (r : Int32) (u1 : St × St) (K : St → St → Int32 → Option (Int32 × (St × St))) : Prop := ∀ (t k : St) (s0 : Int32) (H : Heap) (locs : List Loc) (ls : Array Slot), va_P D vwCl (wX1 a1 a3 cI cZ (t, k)) H → va_D A (wX1 a1 a3 cI cZ (t, k)) → va_S A s.heap H locs → lv_has ls 3 [] → K t k s0 = some (r, u1) → W p l e ({ frames := 3, cells := 0, slots := 0, locals := 63 } : Room) s m args below meth c H locs 0 0 (QI below args s D cI cZ (wX1 a1 a3 cI cZ) A r u1) (F0 m 31 ls [.int s0])
abbrev KP_X1_isVariable_30 (p : Program) (l : Launch) (e : Env) (s : State) (m : MethodId) (args : Array Value) (below : List Frame) (meth : Method) (c : Code) (D : va_G) (cI cZ : ClassId) (a1 a3 : Nat → Nat) (A : Nat → Prop) (r : Int32) (u1 : St × St) (K : St → St → Option (Int32 × (St × St))) : Prop := ∀ (t k : St) (H : Heap) (locs : List Loc) (ls : Array Slot), va_P D vwCl (wX1 a1 a3 cI cZ (t, k)) H → va_D A (wX1 a1 a3 cI cZ (t, k)) → va_S A s.heap H locs → lv_has ls 3 [] → K t k = some (r, u1) → W p l e ({ frames := 3, cells := 0, slots := 0, locals := 63 } : Room) s m args below meth c H locs 0 0 (QI below args s D cI cZ (wX1 a1 a3 cI cZ) A r u1) (F0 m 30 ls [])
set_option maxHeartbeats 4000000 in
set_option maxRecDepth 100000 in
theorem k_X1_isVariable_31 {p : Program} {l : Launch} {e : Env} {s : State} {m : MethodId} {args : Array Value} {below : List Frame} {meth : Method} {c : Code} {D : va_G} {cI cZ : ClassId} {a1 a3 : Nat → Nat} {A : Nat → Prop} {r : Int32} {u1 : St × St} (C0 : mB p s m args meth c D cI cZ A cX1_isVariable 3 (some .boolean) wsX1_isVariable RX1) (N : Nat) : KP_X1_isVariable_31 p l e s m args below meth c D cI cZ a1 a3 A r u1 (f_X1_isVariable_31 N) := by
  obtain ⟨hx, hb, hml, hr, hown, hts, hlocks, hA, hK, hN⟩ := id C0
  intro t k s0 H locs ls hP hD hS hl h
  unfold f_X1_isVariable_31 at h
  by_cases hz : s0 = 0 ∨ s0 = 1
  · rw [if_pos hz] at h
    obtain ⟨rfl, rfl⟩ := so h
    exact ret_z C0 hz hP hD hS dX1_isVariable_31
  · rw [if_neg hz] at h; exact no h
set_option maxHeartbeats 4000000 in
set_option maxRecDepth 100000 in
theorem k_X1_isVariable_30 {p : Program} {l : Launch} {e : Env} {s : State} {m : MethodId} {args : Array Value} {below : List Frame} {meth : Method} {c : Code} {D : va_G} {cI cZ : ClassId} {a1 a3 : Nat → Nat} {A : Nat → Prop} {r : Int32} {u1 : St × St} (C0 : mB p s m args meth c D cI cZ A cX1_isVariable 3 (some .boolean) wsX1_isVariable RX1) (N : Nat) : KP_X1_isVariable_30 p l e s m args below meth c D cI cZ a1 a3 A r u1 (f_X1_isVariable_30 N) := by
  obtain ⟨hx, hb, hml, hr, hown, hts, hlocks, hA, hK, hN⟩ := id C0
  intro t k H locs ls hP hD hS hl h
  unfold f_X1_isVariable_30 at h
  refine lv_iconst (v := 0) hx hb dX1_isVariable_30 rfl ?_
  exact k_X1_isVariable_31 C0 N t k 0 _ _ _ hP hD hS (lv_sub hl [] rfl) h
set_option maxHeartbeats 4000000 in
set_option maxRecDepth 100000 in
theorem c_X1_isVariable (l : Launch) (D : va_G) (cI cZ : ClassId) (a1 a3 : Nat → Nat) (N : Nat) (t k : St) (x1 x2 : Int32) : MI l yX1_isVariable wsX1_isVariable ({ frames := 3, cells := 0, slots := 0, locals := 63 } : Room) D cI cZ (wX1 a1 a3 cI cZ) [.ref (a1 0), .int x1, .int x2] (t, k) (f_X1_isVariable N t k x1 x2) := by
  refine MI.of (cc := cX1_isVariable) (maxL := 3) (ret := (some .boolean)) (own := RX1) (by decide) rfl rfl (Nat.le_of_ble_eq_true rfl) ?_
  intro r u1 h p e s m args below meth c A C0 H locs ls hP hD hS hl
  obtain ⟨hx, hb, hml, hr, hown, hts, hlocks, hA, hK, hN⟩ := id C0
  have hl : lv_has ls 3 [(0, .ref (a1 0)), (1, .int x1), (2, .int x2)] := hl
  unfold f_X1_isVariable at h
  refine lv_aload_n hx hb dX1_isVariable_0 rfl (lv_at hl 0 rfl) ?_
  refine lv_iload_n hx hb dX1_isVariable_1 rfl (lv_at hl 1 rfl) ?_
  obtain ⟨q1, hq1, h⟩ := ob h
  refine mc_i (ws' := wX1 a1 a3 cI cZ (q1.2.1, q1.2.2)) (wr := ([] : va_W)) [0, 1, 2, 3, 4, 5, 6, 7] [] [0, 1, 2, 3, 4, 5, 6, 7] (va_runV (As := [.int x1]) (rest := []) ⟨hx, hb, hml, hown, hts⟩ (c_X1_code l D cI cZ a1 a3 N t k x1 q1.1 q1.2 hq1 H.size) (cwV 1 hts gX1_isVariable_X1_code rfl rfl rfl (by decide +kernel) ⟨Nat.le_of_ble_eq_true rfl, Nat.le_of_ble_eq_true rfl⟩) (pV [0, 1, 2, 3, 4, 5, 6, 7] hP hD hK hN rfl rfl rfl rfl) rfl rfl hl.1 rfl (lv_room (Nat.le_of_ble_eq_true rfl)) dX1_isVariable_2 ⟨Nat.le_of_ble_eq_true rfl, Nat.le_of_ble_eq_true rfl⟩) hP hD hS hA rfl rfl rfl (by decide) rfl rfl (fun H locs hP hD hS => ?_)
  refine lv_aload_n hx hb dX1_isVariable_5 rfl (lv_at hl 0 rfl) ?_
  refine lv_iload_n hx hb dX1_isVariable_6 rfl (lv_at hl 2 rfl) ?_
  obtain ⟨q2, hq2, h⟩ := ob h
  refine mc_i (ws' := wX1 a1 a3 cI cZ (q2.2.1, q2.2.2)) (wr := ([] : va_W)) [0, 1, 2, 3, 4, 5, 6, 7] [] [0, 1, 2, 3, 4, 5, 6, 7] (va_runV (As := [.int x2]) (rest := [.int q1.1]) ⟨hx, hb, hml, hown, hts⟩ (c_X1_root l D cI cZ a1 a3 N q1.2.1 q1.2.2 x2 q2.1 q2.2 hq2 H.size) (cwV 1 hts gX1_isVariable_X1_root rfl rfl rfl (by decide +kernel) ⟨Nat.le_of_ble_eq_true rfl, Nat.le_of_ble_eq_true rfl⟩) (pV [0, 1, 2, 3, 4, 5, 6, 7] hP hD hK hN rfl rfl rfl rfl) rfl rfl hl.1 rfl (lv_room (Nat.le_of_ble_eq_true rfl)) dX1_isVariable_7 ⟨Nat.le_of_ble_eq_true rfl, Nat.le_of_ble_eq_true rfl⟩) hP hD hS hA rfl rfl rfl (by decide) rfl rfl (fun H locs hP hD hS => ?_)
  refine lv_icmp_ne (tgt := 30) hx hb dX1_isVariable_10 (by decide) (fun hc3 => ?_) (fun hc3 => ?_)
  · rw [if_neg hc3] at h
    exact k_X1_isVariable_30 C0 N q2.2.1 q2.2.2 _ _ _ hP hD hS (lv_sub hl [] rfl) h
  · rw [if_pos hc3] at h
    refine lv_aload_n hx hb dX1_isVariable_13 rfl (lv_at hl 0 rfl) ?_
    refine lv_iload_n hx hb dX1_isVariable_14 rfl (lv_at hl 1 rfl) ?_
    obtain ⟨q4, hq4, h⟩ := ob h
    refine mc_i (ws' := wX1 a1 a3 cI cZ (q4.2.1, q4.2.2)) (wr := ([] : va_W)) [0, 1, 2, 3, 4, 5, 6, 7] [] [0, 1, 2, 3, 4, 5, 6, 7] (va_runV (As := [.int x1]) (rest := []) ⟨hx, hb, hml, hown, hts⟩ (c_X1_symbolType l D cI cZ a1 a3 N q2.2.1 q2.2.2 x1 q4.1 q4.2 hq4 H.size) (cwV 1 hts gX1_isVariable_X1_symbolType rfl rfl rfl (by decide +kernel) ⟨Nat.le_of_ble_eq_true rfl, Nat.le_of_ble_eq_true rfl⟩) (pV [0, 1, 2, 3, 4, 5, 6, 7] hP hD hK hN rfl rfl rfl rfl) rfl rfl hl.1 rfl (lv_room (Nat.le_of_ble_eq_true rfl)) dX1_isVariable_15 ⟨Nat.le_of_ble_eq_true rfl, Nat.le_of_ble_eq_true rfl⟩) hP hD hS hA rfl rfl rfl (by decide) rfl rfl (fun H locs hP hD hS => ?_)
    refine lv_aload_n hx hb dX1_isVariable_18 rfl (lv_at hl 0 rfl) ?_
    refine lv_iload_n hx hb dX1_isVariable_19 rfl (lv_at hl 2 rfl) ?_
    obtain ⟨q5, hq5, h⟩ := ob h
    refine mc_i (ws' := wX1 a1 a3 cI cZ (q5.2.1, q5.2.2)) (wr := ([] : va_W)) [0, 1, 2, 3, 4, 5, 6, 7] [] [0, 1, 2, 3, 4, 5, 6, 7] (va_runV (As := [.int x2]) (rest := [.int q4.1]) ⟨hx, hb, hml, hown, hts⟩ (c_X1_rootType l D cI cZ a1 a3 N q4.2.1 q4.2.2 x2 q5.1 q5.2 hq5 H.size) (cwV 1 hts gX1_isVariable_X1_rootType rfl rfl rfl (by decide +kernel) ⟨Nat.le_of_ble_eq_true rfl, Nat.le_of_ble_eq_true rfl⟩) (pV [0, 1, 2, 3, 4, 5, 6, 7] hP hD hK hN rfl rfl rfl rfl) rfl rfl hl.1 rfl (lv_room (Nat.le_of_ble_eq_true rfl)) dX1_isVariable_20 ⟨Nat.le_of_ble_eq_true rfl, Nat.le_of_ble_eq_true rfl⟩) hP hD hS hA rfl rfl rfl (by decide) rfl rfl (fun H locs hP hD hS => ?_)
    refine lv_icmp_ne (tgt := 30) hx hb dX1_isVariable_23 (by decide) (fun hc6 => ?_) (fun hc6 => ?_)
    · rw [if_neg hc6] at h
      exact k_X1_isVariable_30 C0 N q5.2.1 q5.2.2 _ _ _ hP hD hS (lv_sub hl [] rfl) h
    · rw [if_pos hc6] at h
      refine lv_iconst (v := 1) hx hb dX1_isVariable_26 rfl ?_
      refine lv_goto (tgt := 31) hx hb dX1_isVariable_27 (by decide) ?_
      exact k_X1_isVariable_31 C0 N q5.2.1 q5.2.2 1 _ _ _ hP hD hS (lv_sub hl [] rfl) h

theorem in_X1_addBinding_X1 : ∀ w ∈ u_ws RX1 TX1 8, w ∈ wsX1_addBinding := by decide +kernel
def f_X1_addBinding_50 (N : Nat) (k13 : St → St → Int32 → Int32 → Int32 → Option (St × St)) (t k : St) (x1 x2 x3 s0 : Int32) : Option (St × St) := (f_X1_symbolType N t k x3).bind (fun q1 => (f_X1_add N q1.2.1 q1.2.2 s0 q1.1).bind (fun q2 => (f_X3_pass N q2.2 s0).bind (fun q3 => k13 q2.1 q3 x1 x2 (x3 + 1))))
def f_X1_addBinding_13 (N : Nat) : Nat → St → St → Int32 → Int32 → Int32 → Option (St × St)
  | 0, _, _, _, _, _ => none
  | n + 1, t, k, x1, x2, x3 => (f_X1_end N t k x2).bind (fun q1 => if q1.1 ≤ x3 then some (q1.2.1, q1.2.2) else (f_X1_isVariable N q1.2.1 q1.2.2 x3 x1).bind (fun q3 => if q3.1 = 0 then (f_X1_code N q3.2.1 q3.2.2 x3).bind (fun q5 => f_X1_addBinding_50 N (f_X1_addBinding_13 N n) q5.2.1 q5.2.2 x1 x2 x3 q5.1) else (f_X3_around N q3.2.2).bind (fun q6 => (f_X4_codeOf N 0 q6.1).bind (fun q7 => f_X1_addBinding_50 N (f_X1_addBinding_13 N n) q3.2.1 q6.2 x1 x2 x3 q7.1))))
def f_X1_addBinding (N : Nat) (t k : St) (x1 x2 : Int32) : Option (St × St) := (f_X3_begin N k).bind (fun q1 => (f_X1_start N t q1 x2).bind (fun q2 => f_X1_addBinding_13 N N q2.2.1 q2.2.2 x1 x2 q2.1))
abbrev KP_X1_addBinding_50 (p : Program) (l : Launch) (e : Env) (s : State) (m : MethodId) (args : Array Value) (below : List Frame) (meth : Method) (c : Code) (D : va_G) (cI cZ : ClassId) (a1 a3 : Nat → Nat) (A : Nat → Prop) (u1 : St × St) (K : St → St → Int32 → Int32 → Int32 → Int32 → Option (St × St)) : Prop := ∀ (t k : St) (x1 x2 x3 s0 : Int32) (H : Heap) (locs : List Loc) (ls : Array Slot), va_P D vwCl (wX1 a1 a3 cI cZ (t, k)) H → va_D A (wX1 a1 a3 cI cZ (t, k)) → va_S A s.heap H locs → lv_has ls 5 [(0, .ref (a1 0)), (1, .int x1), (2, .int x2), (3, .int x3)] → K t k x1 x2 x3 s0 = some u1 → W p l e ({ frames := 4, cells := 0, slots := 0, locals := 85 } : Room) s m args below meth c H locs 0 0 (QV below args s D cI cZ (wX1 a1 a3 cI cZ) A u1) (F0 m 50 ls [.int s0])
abbrev KP_X1_addBinding_13 (p : Program) (l : Launch) (e : Env) (s : State) (m : MethodId) (args : Array Value) (below : List Frame) (meth : Method) (c : Code) (D : va_G) (cI cZ : ClassId) (a1 a3 : Nat → Nat) (A : Nat → Prop) (u1 : St × St) (K : St → St → Int32 → Int32 → Int32 → Option (St × St)) : Prop := ∀ (t k : St) (x1 x2 x3 : Int32) (H : Heap) (locs : List Loc) (ls : Array Slot), va_P D vwCl (wX1 a1 a3 cI cZ (t, k)) H → va_D A (wX1 a1 a3 cI cZ (t, k)) → va_S A s.heap H locs → lv_has ls 5 [(0, .ref (a1 0)), (1, .int x1), (2, .int x2), (3, .int x3)] → K t k x1 x2 x3 = some u1 → W p l e ({ frames := 4, cells := 0, slots := 0, locals := 85 } : Room) s m args below meth c H locs 0 0 (QV below args s D cI cZ (wX1 a1 a3 cI cZ) A u1) (F0 m 13 ls [])
set_option maxHeartbeats 4000000 in
set_option maxRecDepth 100000 in
theorem k_X1_addBinding_50 {p : Program} {l : Launch} {e : Env} {s : State} {m : MethodId} {args : Array Value} {below : List Frame} {meth : Method} {c : Code} {D : va_G} {cI cZ : ClassId} {a1 a3 : Nat → Nat} {A : Nat → Prop} {u1 : St × St} (C0 : mB p s m args meth c D cI cZ A cX1_addBinding 5 none wsX1_addBinding RX1) (N : Nat) (k13 : St → St → Int32 → Int32 → Int32 → Option (St × St)) (hk13 : KP_X1_addBinding_13 p l e s m args below meth c D cI cZ a1 a3 A u1 k13) : KP_X1_addBinding_50 p l e s m args below meth c D cI cZ a1 a3 A u1 (f_X1_addBinding_50 N k13) := by
  obtain ⟨hx, hb, hml, hr, hown, hts, hlocks, hA, hK, hN⟩ := id C0
  intro t k x1 x2 x3 s0 H locs ls hP hD hS hl h
  unfold f_X1_addBinding_50 at h
  refine lv_istore (lv' := [(4, .int s0), (0, .ref (a1 0)), (1, .int x1), (2, .int x2), (3, .int x3)]) hx hb dX1_addBinding_50 hl (by decide) rfl (fun ls hl => ?_)
  refine lv_aload_n hx hb dX1_addBinding_52 rfl (lv_at hl 1 rfl) ?_
  refine lv_iload hx hb dX1_addBinding_53 (lv_at hl 0 rfl) ?_
  refine lv_aload_n hx hb dX1_addBinding_55 rfl (lv_at hl 1 rfl) ?_
  refine lv_iload_n hx hb dX1_addBinding_56 rfl (lv_at hl 4 rfl) ?_
  obtain ⟨q1, hq1, h⟩ := ob h
  refine mc_i (ws' := wX1 a1 a3 cI cZ (q1.2.1, q1.2.2)) (wr := ([] : va_W)) [0, 1, 2, 3, 4, 5, 6, 7] [] [0, 1, 2, 3, 4, 5, 6, 7] (va_runV (As := [.int x3]) (rest := [.int s0, .ref (a1 0)]) ⟨hx, hb, hml, hown, hts⟩ (c_X1_symbolType l D cI cZ a1 a3 N t k x3 q1.1 q1.2 hq1 H.size) (cwV 1 hts gX1_addBinding_X1_symbolType rfl rfl rfl (by decide +kernel) ⟨Nat.le_of_ble_eq_true rfl, Nat.le_of_ble_eq_true rfl⟩) (pV [0, 1, 2, 3, 4, 5, 6, 7] hP hD hK hN rfl rfl rfl rfl) rfl rfl hl.1 rfl (lv_room (Nat.le_of_ble_eq_true rfl)) dX1_addBinding_57 ⟨Nat.le_of_ble_eq_true rfl, Nat.le_of_ble_eq_true rfl⟩) hP hD hS hA rfl rfl rfl (by decide) rfl rfl (fun H locs hP hD hS => ?_)
  obtain ⟨q2, hq2, h⟩ := ob h
  refine mc_v (ws' := wX1 a1 a3 cI cZ (q2.1, q2.2)) (wr := ([] : va_W)) [0, 1, 2, 3, 4, 5, 6, 7] [] [0, 1, 2, 3, 4, 5, 6, 7] (va_runV (As := [.int s0, .int q1.1]) (rest := []) ⟨hx, hb, hml, hown, hts⟩ (c_X1_add l D cI cZ a1 a3 N q1.2.1 q1.2.2 s0 q1.1 q2 hq2 H.size) (cwV 2 hts gX1_addBinding_X1_add rfl rfl rfl (by decide +kernel) ⟨Nat.le_of_ble_eq_true rfl, Nat.le_of_ble_eq_true rfl⟩) (pV [0, 1, 2, 3, 4, 5, 6, 7] hP hD hK hN rfl rfl rfl rfl) rfl rfl hl.1 rfl (lv_room (Nat.le_of_ble_eq_true rfl)) dX1_addBinding_60 ⟨Nat.le_of_ble_eq_true rfl, Nat.le_of_ble_eq_true rfl⟩) hP hD hS hA rfl rfl rfl (by decide) rfl rfl (fun H locs hP hD hS => ?_)
  refine lv_aload_n hx hb dX1_addBinding_63 rfl (lv_at hl 1 rfl) ?_
  refine va_get (D := D) (ci := 1) (v := .ref (a3 0)) (C := RX1) (T := TX1) (N := 8) hx hb hts in_X1_addBinding_X1 hown hK hP 0 rfl rfl 4 (by decide) (hts (.fieldLink RX1 27 "TermLoom$TermStore" "walk" "LTermLoom$Walk;") (by decide +kernel)) (fun _ h9 => h9) rfl dX1_addBinding_64 ?_
  refine lv_iload hx hb dX1_addBinding_67 (lv_at hl 0 rfl) ?_
  obtain ⟨q3, hq3, h⟩ := ob h
  refine mc_v (ws' := wX1 a1 a3 cI cZ (q2.1, q3)) (wr := ((wX1o a1 a3 cI cZ q2.1) : va_W)) [5, 6, 7] [0, 1, 2, 3, 4] [0, 1, 2, 3, 4, 5, 6, 7] (va_runV (As := [.int s0]) (rest := []) ⟨hx, hb, hml, hown, hts⟩ (c_X3_pass l D cI cZ a3 N q2.2 s0 q3 hq3 H.size) (cwV 1 hts gX1_addBinding_X3_pass rfl rfl rfl (by decide +kernel) ⟨Nat.le_of_ble_eq_true rfl, Nat.le_of_ble_eq_true rfl⟩) (pV [5, 6, 7] hP hD hK hN rfl rfl rfl rfl) rfl rfl hl.1 rfl (lv_room (Nat.le_of_ble_eq_true rfl)) dX1_addBinding_69 ⟨Nat.le_of_ble_eq_true rfl, Nat.le_of_ble_eq_true rfl⟩) hP hD hS hA rfl rfl rfl (by decide) rfl rfl (fun H locs hP hD hS => ?_)
  refine lv_iinc (v := (x3 + 1)) (lv' := [(3, .int (x3 + 1)), (4, .int s0), (0, .ref (a1 0)), (1, .int x1), (2, .int x2)]) hx hb dX1_addBinding_72 hl (k := 4) rfl rfl (by decide) rfl (fun ls hl => ?_)
  refine lv_goto (tgt := 13) hx hb dX1_addBinding_75 (by decide) ?_
  exact hk13 q2.1 q3 x1 x2 (x3 + 1) _ _ _ hP hD hS (lv_sub hl [2, 3, 4, 0] rfl) h
set_option maxHeartbeats 4000000 in
set_option maxRecDepth 100000 in
theorem k_X1_addBinding_13 {p : Program} {l : Launch} {e : Env} {s : State} {m : MethodId} {args : Array Value} {below : List Frame} {meth : Method} {c : Code} {D : va_G} {cI cZ : ClassId} {a1 a3 : Nat → Nat} {A : Nat → Prop} {u1 : St × St} (C0 : mB p s m args meth c D cI cZ A cX1_addBinding 5 none wsX1_addBinding RX1) (N : Nat) : ∀ n : Nat, KP_X1_addBinding_13 p l e s m args below meth c D cI cZ a1 a3 A u1 (f_X1_addBinding_13 N n) := by
  obtain ⟨hx, hb, hml, hr, hown, hts, hlocks, hA, hK, hN⟩ := id C0
  intro n
  induction n with
  | zero =>
    intro t k x1 x2 x3 H locs ls hP hD hS hl h
    exact no (show (none : Option (St × St)) = _ from h)
  | succ n ih =>
    intro t k x1 x2 x3 H locs ls hP hD hS hl h
    rw [f_X1_addBinding_13] at h
    refine lv_iload_n hx hb dX1_addBinding_13 rfl (lv_at hl 3 rfl) ?_
    refine lv_aload_n hx hb dX1_addBinding_14 rfl (lv_at hl 0 rfl) ?_
    refine lv_iload_n hx hb dX1_addBinding_15 rfl (lv_at hl 2 rfl) ?_
    obtain ⟨q1, hq1, h⟩ := ob h
    refine mc_i (ws' := wX1 a1 a3 cI cZ (q1.2.1, q1.2.2)) (wr := ([] : va_W)) [0, 1, 2, 3, 4, 5, 6, 7] [] [0, 1, 2, 3, 4, 5, 6, 7] (va_runV (As := [.int x2]) (rest := [.int x3]) ⟨hx, hb, hml, hown, hts⟩ (c_X1_end l D cI cZ a1 a3 N t k x2 q1.1 q1.2 hq1 H.size) (cwV 1 hts gX1_addBinding_X1_end rfl rfl rfl (by decide +kernel) ⟨Nat.le_of_ble_eq_true rfl, Nat.le_of_ble_eq_true rfl⟩) (pV [0, 1, 2, 3, 4, 5, 6, 7] hP hD hK hN rfl rfl rfl rfl) rfl rfl hl.1 rfl (lv_room (Nat.le_of_ble_eq_true rfl)) dX1_addBinding_16 ⟨Nat.le_of_ble_eq_true rfl, Nat.le_of_ble_eq_true rfl⟩) hP hD hS hA rfl rfl rfl (by decide) rfl rfl (fun H locs hP hD hS => ?_)
    refine lv_icmp_ge (tgt := 78) hx hb dX1_addBinding_19 (by decide) (fun hc2 => ?_) (fun hc2 => ?_)
    · rw [if_pos hc2] at h
      obtain rfl := so1 h
      exact ret_v C0 hP hD hS dX1_addBinding_78
    · rw [if_neg hc2] at h
      refine lv_aload_n hx hb dX1_addBinding_22 rfl (lv_at hl 0 rfl) ?_
      refine lv_iload_n hx hb dX1_addBinding_23 rfl (lv_at hl 3 rfl) ?_
      refine lv_iload_n hx hb dX1_addBinding_24 rfl (lv_at hl 1 rfl) ?_
      obtain ⟨q3, hq3, h⟩ := ob h
      refine mc_i (ws' := wX1 a1 a3 cI cZ (q3.2.1, q3.2.2)) (wr := ([] : va_W)) [0, 1, 2, 3, 4, 5, 6, 7] [] [0, 1, 2, 3, 4, 5, 6, 7] (va_runV (As := [.int x3, .int x1]) (rest := []) ⟨hx, hb, hml, hown, hts⟩ (c_X1_isVariable l D cI cZ a1 a3 N q1.2.1 q1.2.2 x3 x1 q3.1 q3.2 hq3 H.size) (cwV 2 hts gX1_addBinding_X1_isVariable rfl rfl rfl (by decide +kernel) ⟨Nat.le_of_ble_eq_true rfl, Nat.le_of_ble_eq_true rfl⟩) (pV [0, 1, 2, 3, 4, 5, 6, 7] hP hD hK hN rfl rfl rfl rfl) rfl rfl hl.1 rfl (lv_room (Nat.le_of_ble_eq_true rfl)) dX1_addBinding_25 ⟨Nat.le_of_ble_eq_true rfl, Nat.le_of_ble_eq_true rfl⟩) hP hD hS hA rfl rfl rfl (by decide) rfl rfl (fun H locs hP hD hS => ?_)
      refine lv_if_eq (tgt := 45) hx hb dX1_addBinding_28 (by decide) (fun hc4 => ?_) (fun hc4 => ?_)
      · rw [if_pos hc4] at h
        refine lv_aload_n hx hb dX1_addBinding_45 rfl (lv_at hl 0 rfl) ?_
        refine lv_iload_n hx hb dX1_addBinding_46 rfl (lv_at hl 3 rfl) ?_
        obtain ⟨q5, hq5, h⟩ := ob h
        refine mc_i (ws' := wX1 a1 a3 cI cZ (q5.2.1, q5.2.2)) (wr := ([] : va_W)) [0, 1, 2, 3, 4, 5, 6, 7] [] [0, 1, 2, 3, 4, 5, 6, 7] (va_runV (As := [.int x3]) (rest := []) ⟨hx, hb, hml, hown, hts⟩ (c_X1_code l D cI cZ a1 a3 N q3.2.1 q3.2.2 x3 q5.1 q5.2 hq5 H.size) (cwV 1 hts gX1_addBinding_X1_code rfl rfl rfl (by decide +kernel) ⟨Nat.le_of_ble_eq_true rfl, Nat.le_of_ble_eq_true rfl⟩) (pV [0, 1, 2, 3, 4, 5, 6, 7] hP hD hK hN rfl rfl rfl rfl) rfl rfl hl.1 rfl (lv_room (Nat.le_of_ble_eq_true rfl)) dX1_addBinding_47 ⟨Nat.le_of_ble_eq_true rfl, Nat.le_of_ble_eq_true rfl⟩) hP hD hS hA rfl rfl rfl (by decide) rfl rfl (fun H locs hP hD hS => ?_)
        exact k_X1_addBinding_50 C0 N (f_X1_addBinding_13 N n) ih q5.2.1 q5.2.2 x1 x2 x3 q5.1 _ _ _ hP hD hS (lv_sub hl [0, 1, 2, 3] rfl) h
      · rw [if_neg hc4] at h
        refine lv_iconst (v := 0) hx hb dX1_addBinding_31 rfl ?_
        refine lv_aload_n hx hb dX1_addBinding_32 rfl (lv_at hl 0 rfl) ?_
        refine va_get (D := D) (ci := 1) (v := .ref (a3 0)) (C := RX1) (T := TX1) (N := 8) hx hb hts in_X1_addBinding_X1 hown hK hP 0 rfl rfl 4 (by decide) (hts (.fieldLink RX1 27 "TermLoom$TermStore" "walk" "LTermLoom$Walk;") (by decide +kernel)) (fun _ h9 => h9) rfl dX1_addBinding_33 ?_
        obtain ⟨q6, hq6, h⟩ := ob h
        refine mc_i (ws' := wX1 a1 a3 cI cZ (q3.2.1, q6.2)) (wr := ((wX1o a1 a3 cI cZ q3.2.1) : va_W)) [5, 6, 7] [0, 1, 2, 3, 4] [0, 1, 2, 3, 4, 5, 6, 7] (va_runV (As := []) (rest := [.int 0]) ⟨hx, hb, hml, hown, hts⟩ (c_X3_around l D cI cZ a3 N q3.2.2 q6.1 q6.2 hq6 H.size) (cwV 0 hts gX1_addBinding_X3_around rfl rfl rfl (by decide +kernel) ⟨Nat.le_of_ble_eq_true rfl, Nat.le_of_ble_eq_true rfl⟩) (pV [5, 6, 7] hP hD hK hN rfl rfl rfl rfl) rfl rfl hl.1 rfl (lv_room (Nat.le_of_ble_eq_true rfl)) dX1_addBinding_36 ⟨Nat.le_of_ble_eq_true rfl, Nat.le_of_ble_eq_true rfl⟩) hP hD hS hA rfl rfl rfl (by decide) rfl rfl (fun H locs hP hD hS => ?_)
        obtain ⟨q7, hq7, h⟩ := ob h
        refine mc_i (ws' := wX1 a1 a3 cI cZ (q3.2.1, q6.2)) (wr := ((wX1o a1 a3 cI cZ q3.2.1) ++ (wX3o a3 cI cZ q6.2) : va_W)) [] [0, 1, 2, 3, 4, 5, 6, 7] [0, 1, 2, 3, 4, 5, 6, 7] (va_runSN (As := [.int 0, .int q6.1]) (rest := []) ⟨hx, hb, hml, hown, hts⟩ (c_X4_codeOf l D cI cZ N 0 q6.1 q7.1 q7.2 hq7 H.size) ⟨va_cnB 2 hts gX1_addBinding_X4_codeOf_n102 rfl rfl rfl (nw_X1_102 hN) (hts (.initialized RX4) (by decide +kernel)) (by decide +kernel) ⟨Nat.le_of_ble_eq_true rfl, Nat.le_of_ble_eq_true rfl⟩, hts (.static yX4_codeOf) (by decide +kernel), trivial⟩ (pS [] hP hD hK hN rfl rfl) rfl rfl hl.1 rfl (lv_room (Nat.le_of_ble_eq_true rfl)) dX1_addBinding_39 ⟨Nat.le_of_ble_eq_true rfl, Nat.le_of_ble_eq_true rfl⟩) hP hD hS hA rfl rfl rfl (by decide) rfl rfl (fun H locs hP hD hS => ?_)
        refine lv_goto (tgt := 50) hx hb dX1_addBinding_42 (by decide) ?_
        exact k_X1_addBinding_50 C0 N (f_X1_addBinding_13 N n) ih q3.2.1 q6.2 x1 x2 x3 q7.1 _ _ _ hP hD hS (lv_sub hl [0, 1, 2, 3] rfl) h
set_option maxHeartbeats 4000000 in
set_option maxRecDepth 100000 in
theorem c_X1_addBinding (l : Launch) (D : va_G) (cI cZ : ClassId) (a1 a3 : Nat → Nat) (N : Nat) (t k : St) (x1 x2 : Int32) : MV l yX1_addBinding wsX1_addBinding ({ frames := 4, cells := 0, slots := 0, locals := 85 } : Room) D cI cZ (wX1 a1 a3 cI cZ) [.ref (a1 0), .int x1, .int x2] (t, k) (f_X1_addBinding N t k x1 x2) := by
  refine MV.of (cc := cX1_addBinding) (maxL := 5) (ret := none) (own := RX1) (by decide) rfl rfl (Nat.le_of_ble_eq_true rfl) ?_
  intro u1 h p e s m args below meth c A C0 H locs ls hP hD hS hl
  obtain ⟨hx, hb, hml, hr, hown, hts, hlocks, hA, hK, hN⟩ := id C0
  have hl : lv_has ls 5 [(0, .ref (a1 0)), (1, .int x1), (2, .int x2)] := hl
  unfold f_X1_addBinding at h
  refine lv_aload_n hx hb dX1_addBinding_0 rfl (lv_at hl 0 rfl) ?_
  refine va_get (D := D) (ci := 1) (v := .ref (a3 0)) (C := RX1) (T := TX1) (N := 8) hx hb hts in_X1_addBinding_X1 hown hK hP 0 rfl rfl 4 (by decide) (hts (.fieldLink RX1 27 "TermLoom$TermStore" "walk" "LTermLoom$Walk;") (by decide +kernel)) (fun _ h9 => h9) rfl dX1_addBinding_1 ?_
  obtain ⟨q1, hq1, h⟩ := ob h
  refine mc_v (ws' := wX1 a1 a3 cI cZ (t, q1)) (wr := ((wX1o a1 a3 cI cZ t) : va_W)) [5, 6, 7] [0, 1, 2, 3, 4] [0, 1, 2, 3, 4, 5, 6, 7] (va_runV (As := []) (rest := []) ⟨hx, hb, hml, hown, hts⟩ (c_X3_begin l D cI cZ a3 N k q1 hq1 H.size) (cwV 0 hts gX1_addBinding_X3_begin rfl rfl rfl (by decide +kernel) ⟨Nat.le_of_ble_eq_true rfl, Nat.le_of_ble_eq_true rfl⟩) (pV [5, 6, 7] hP hD hK hN rfl rfl rfl rfl) rfl rfl hl.1 rfl (lv_room (Nat.le_of_ble_eq_true rfl)) dX1_addBinding_4 ⟨Nat.le_of_ble_eq_true rfl, Nat.le_of_ble_eq_true rfl⟩) hP hD hS hA rfl rfl rfl (by decide) rfl rfl (fun H locs hP hD hS => ?_)
  refine lv_aload_n hx hb dX1_addBinding_7 rfl (lv_at hl 0 rfl) ?_
  refine lv_iload_n hx hb dX1_addBinding_8 rfl (lv_at hl 2 rfl) ?_
  obtain ⟨q2, hq2, h⟩ := ob h
  refine mc_i (ws' := wX1 a1 a3 cI cZ (q2.2.1, q2.2.2)) (wr := ([] : va_W)) [0, 1, 2, 3, 4, 5, 6, 7] [] [0, 1, 2, 3, 4, 5, 6, 7] (va_runV (As := [.int x2]) (rest := []) ⟨hx, hb, hml, hown, hts⟩ (c_X1_start l D cI cZ a1 a3 N t q1 x2 q2.1 q2.2 hq2 H.size) (cwV 1 hts gX1_addBinding_X1_start rfl rfl rfl (by decide +kernel) ⟨Nat.le_of_ble_eq_true rfl, Nat.le_of_ble_eq_true rfl⟩) (pV [0, 1, 2, 3, 4, 5, 6, 7] hP hD hK hN rfl rfl rfl rfl) rfl rfl hl.1 rfl (lv_room (Nat.le_of_ble_eq_true rfl)) dX1_addBinding_9 ⟨Nat.le_of_ble_eq_true rfl, Nat.le_of_ble_eq_true rfl⟩) hP hD hS hA rfl rfl rfl (by decide) rfl rfl (fun H locs hP hD hS => ?_)
  refine lv_istore_n (lv' := [(3, .int q2.1), (0, .ref (a1 0)), (1, .int x1), (2, .int x2)]) hx hb dX1_addBinding_12 rfl hl (by decide) rfl (fun ls hl => ?_)
  exact k_X1_addBinding_13 C0 N N q2.2.1 q2.2.2 x1 x2 q2.1 _ _ _ hP hD hS (lv_sub hl [1, 2, 3, 0] rfl) h
