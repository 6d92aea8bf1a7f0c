def f_X1_addOrCopy_35 (N : Nat) (t k : St) : Option (St × St) := some (t, k)
def f_X1_addOrCopy (N : Nat) (t k : St) (x1 x2 x3 : Int32) : Option (St × St) := if x2 = 0 then (f_X1_code N t k x1).bind (fun q2 => (f_X1_symbolType N q2.2.1 q2.2.2 x1).bind (fun q3 => (f_X1_add N q3.2.1 q3.2.2 q2.1 q3.1).bind (fun q4 => f_X1_addOrCopy_35 N q4.1 q4.2))) else (f_X1_start N t k x3).bind (fun q5 => (f_X1_end N q5.2.1 q5.2.2 x3).bind (fun q6 => (f_X1_copy N q6.2.1 q6.2.2 q5.1 q6.1).bind (fun q7 => f_X1_addOrCopy_35 N q7.1 q7.2)))
abbrev KP_X1_addOrCopy_35 (p : Program) (l : Launch) (e : Env) (s : State) (m : MethodId) (args : Array Value) (below : List Frame) (meth : Method) (c : Code) (D : va_G) (cI cZ : ClassId) (a1 a3 : Nat → Nat) (A : Nat → Prop) (u1 : St × St) (K : St → St → Option (St × St)) : Prop := ∀ (t k : St) (H : Heap) (locs : List Loc) (ls : Array Slot), va_P D vwCl (wX1 a1 a3 cI cZ (t, k)) H → va_D A (wX1 a1 a3 cI cZ (t, k)) → va_S A s.heap H locs → lv_has ls 4 [] → K t k = some u1 → W p l e ({ frames := 4, cells := 0, slots := 0, locals := 86 } : Room) s m args below meth c H locs 0 0 (QV below args s D cI cZ (wX1 a1 a3 cI cZ) A u1) (F0 m 35 ls [])
set_option maxHeartbeats 4000000 in
set_option maxRecDepth 100000 in
theorem k_X1_addOrCopy_35 {p : Program} {l : Launch} {e : Env} {s : State} {m : MethodId} {args : Array Value} {below : List Frame} {meth : Method} {c : Code} {D : va_G} {cI cZ : ClassId} {a1 a3 : Nat → Nat} {A : Nat → Prop} {u1 : St × St} (C0 : mB p s m args meth c D cI cZ A cX1_addOrCopy 4 none wsX1_addOrCopy RX1) (N : Nat) : KP_X1_addOrCopy_35 p l e s m args below meth c D cI cZ a1 a3 A u1 (f_X1_addOrCopy_35 N) := by
  obtain ⟨hx, hb, hml, hr, hown, hts, hlocks, hA, hK, hN⟩ := id C0
  intro t k H locs ls hP hD hS hl h
  unfold f_X1_addOrCopy_35 at h
  obtain rfl := so1 h
  exact ret_v C0 hP hD hS dX1_addOrCopy_35
set_option maxHeartbeats 4000000 in
set_option maxRecDepth 100000 in
theorem c_X1_addOrCopy (l : Launch) (D : va_G) (cI cZ : ClassId) (a1 a3 : Nat → Nat) (N : Nat) (t k : St) (x1 x2 x3 : Int32) : MV l yX1_addOrCopy wsX1_addOrCopy ({ frames := 4, cells := 0, slots := 0, locals := 86 } : Room) D cI cZ (wX1 a1 a3 cI cZ) [.ref (a1 0), .int x1, .int x2, .int x3] (t, k) (f_X1_addOrCopy N t k x1 x2 x3) := by
  refine MV.of (cc := cX1_addOrCopy) (maxL := 4) (ret := none) (own := RX1) (by decide) rfl rfl (Nat.le_of_ble_eq_true rfl) ?_
  intro u1 h p e s m args below meth c A C0 H locs ls hP hD hS hl
  obtain ⟨hx, hb, hml, hr, hown, hts, hlocks, hA, hK, hN⟩ := id C0
  have hl : lv_has ls 4 [(0, .ref (a1 0)), (1, .int x1), (2, .int x2), (3, .int x3)] := hl
  unfold f_X1_addOrCopy at h
  refine lv_iload_n hx hb dX1_addOrCopy_0 rfl (lv_at hl 2 rfl) ?_
  refine lv_if_eq (tgt := 21) hx hb dX1_addOrCopy_1 (by decide) (fun hc1 => ?_) (fun hc1 => ?_)
  · rw [if_pos hc1] at h
    refine lv_aload_n hx hb dX1_addOrCopy_21 rfl (lv_at hl 0 rfl) ?_
    refine lv_aload_n hx hb dX1_addOrCopy_22 rfl (lv_at hl 0 rfl) ?_
    refine lv_iload_n hx hb dX1_addOrCopy_23 rfl (lv_at hl 1 rfl) ?_
    obtain ⟨q2, hq2, h⟩ := ob h
    refine mc_i (ws' := wX1 a1 a3 cI cZ (q2.2.1, q2.2.2)) (wr := ([] : va_W)) [0, 1, 2, 3, 4, 5, 6, 7] [] [0, 1, 2, 3, 4, 5, 6, 7] (va_runV (As := [.int x1]) (rest := [.ref (a1 0)]) ⟨hx, hb, hml, hown, hts⟩ (c_X1_code l D cI cZ a1 a3 N t k x1 q2.1 q2.2 hq2 H.size) (cwV 1 hts gX1_addOrCopy_X1_code rfl rfl rfl (by decide +kernel) ⟨Nat.le_of_ble_eq_true rfl, Nat.le_of_ble_eq_true rfl⟩) (pV [0, 1, 2, 3, 4, 5, 6, 7] hP hD hK hN rfl rfl rfl rfl) rfl rfl hl.1 rfl (lv_room (Nat.le_of_ble_eq_true rfl)) dX1_addOrCopy_24 ⟨Nat.le_of_ble_eq_true rfl, Nat.le_of_ble_eq_true rfl⟩) hP hD hS hA rfl rfl rfl (by decide) rfl rfl (fun H locs hP hD hS => ?_)
    refine lv_aload_n hx hb dX1_addOrCopy_27 rfl (lv_at hl 0 rfl) ?_
    refine lv_iload_n hx hb dX1_addOrCopy_28 rfl (lv_at hl 1 rfl) ?_
    obtain ⟨q3, hq3, h⟩ := ob h
    refine mc_i (ws' := wX1 a1 a3 cI cZ (q3.2.1, q3.2.2)) (wr := ([] : va_W)) [0, 1, 2, 3, 4, 5, 6, 7] [] [0, 1, 2, 3, 4, 5, 6, 7] (va_runV (As := [.int x1]) (rest := [.int q2.1, .ref (a1 0)]) ⟨hx, hb, hml, hown, hts⟩ (c_X1_symbolType l D cI cZ a1 a3 N q2.2.1 q2.2.2 x1 q3.1 q3.2 hq3 H.size) (cwV 1 hts gX1_addOrCopy_X1_symbolType rfl rfl rfl (by decide +kernel) ⟨Nat.le_of_ble_eq_true rfl, Nat.le_of_ble_eq_true rfl⟩) (pV [0, 1, 2, 3, 4, 5, 6, 7] hP hD hK hN rfl rfl rfl rfl) rfl rfl hl.1 rfl (lv_room (Nat.le_of_ble_eq_true rfl)) dX1_addOrCopy_29 ⟨Nat.le_of_ble_eq_true rfl, Nat.le_of_ble_eq_true rfl⟩) hP hD hS hA rfl rfl rfl (by decide) rfl rfl (fun H locs hP hD hS => ?_)
    obtain ⟨q4, hq4, h⟩ := ob h
    refine mc_v (ws' := wX1 a1 a3 cI cZ (q4.1, q4.2)) (wr := ([] : va_W)) [0, 1, 2, 3, 4, 5, 6, 7] [] [0, 1, 2, 3, 4, 5, 6, 7] (va_runV (As := [.int q2.1, .int q3.1]) (rest := []) ⟨hx, hb, hml, hown, hts⟩ (c_X1_add l D cI cZ a1 a3 N q3.2.1 q3.2.2 q2.1 q3.1 q4 hq4 H.size) (cwV 2 hts gX1_addOrCopy_X1_add rfl rfl rfl (by decide +kernel) ⟨Nat.le_of_ble_eq_true rfl, Nat.le_of_ble_eq_true rfl⟩) (pV [0, 1, 2, 3, 4, 5, 6, 7] hP hD hK hN rfl rfl rfl rfl) rfl rfl hl.1 rfl (lv_room (Nat.le_of_ble_eq_true rfl)) dX1_addOrCopy_32 ⟨Nat.le_of_ble_eq_true rfl, Nat.le_of_ble_eq_true rfl⟩) hP hD hS hA rfl rfl rfl (by decide) rfl rfl (fun H locs hP hD hS => ?_)
    exact k_X1_addOrCopy_35 C0 N q4.1 q4.2 _ _ _ hP hD hS (lv_sub hl [] rfl) h
  · rw [if_neg hc1] at h
    refine lv_aload_n hx hb dX1_addOrCopy_4 rfl (lv_at hl 0 rfl) ?_
    refine lv_aload_n hx hb dX1_addOrCopy_5 rfl (lv_at hl 0 rfl) ?_
    refine lv_iload_n hx hb dX1_addOrCopy_6 rfl (lv_at hl 3 rfl) ?_
    obtain ⟨q5, hq5, h⟩ := ob h
    refine mc_i (ws' := wX1 a1 a3 cI cZ (q5.2.1, q5.2.2)) (wr := ([] : va_W)) [0, 1, 2, 3, 4, 5, 6, 7] [] [0, 1, 2, 3, 4, 5, 6, 7] (va_runV (As := [.int x3]) (rest := [.ref (a1 0)]) ⟨hx, hb, hml, hown, hts⟩ (c_X1_start l D cI cZ a1 a3 N t k x3 q5.1 q5.2 hq5 H.size) (cwV 1 hts gX1_addOrCopy_X1_start rfl rfl rfl (by decide +kernel) ⟨Nat.le_of_ble_eq_true rfl, Nat.le_of_ble_eq_true rfl⟩) (pV [0, 1, 2, 3, 4, 5, 6, 7] hP hD hK hN rfl rfl rfl rfl) rfl rfl hl.1 rfl (lv_room (Nat.le_of_ble_eq_true rfl)) dX1_addOrCopy_7 ⟨Nat.le_of_ble_eq_true rfl, Nat.le_of_ble_eq_true rfl⟩) hP hD hS hA rfl rfl rfl (by decide) rfl rfl (fun H locs hP hD hS => ?_)
    refine lv_aload_n hx hb dX1_addOrCopy_10 rfl (lv_at hl 0 rfl) ?_
    refine lv_iload_n hx hb dX1_addOrCopy_11 rfl (lv_at hl 3 rfl) ?_
    obtain ⟨q6, hq6, h⟩ := ob h
    refine mc_i (ws' := wX1 a1 a3 cI cZ (q6.2.1, q6.2.2)) (wr := ([] : va_W)) [0, 1, 2, 3, 4, 5, 6, 7] [] [0, 1, 2, 3, 4, 5, 6, 7] (va_runV (As := [.int x3]) (rest := [.int q5.1, .ref (a1 0)]) ⟨hx, hb, hml, hown, hts⟩ (c_X1_end l D cI cZ a1 a3 N q5.2.1 q5.2.2 x3 q6.1 q6.2 hq6 H.size) (cwV 1 hts gX1_addOrCopy_X1_end rfl rfl rfl (by decide +kernel) ⟨Nat.le_of_ble_eq_true rfl, Nat.le_of_ble_eq_true rfl⟩) (pV [0, 1, 2, 3, 4, 5, 6, 7] hP hD hK hN rfl rfl rfl rfl) rfl rfl hl.1 rfl (lv_room (Nat.le_of_ble_eq_true rfl)) dX1_addOrCopy_12 ⟨Nat.le_of_ble_eq_true rfl, Nat.le_of_ble_eq_true rfl⟩) hP hD hS hA rfl rfl rfl (by decide) rfl rfl (fun H locs hP hD hS => ?_)
    obtain ⟨q7, hq7, h⟩ := ob h
    refine mc_v (ws' := wX1 a1 a3 cI cZ (q7.1, q7.2)) (wr := ([] : va_W)) [0, 1, 2, 3, 4, 5, 6, 7] [] [0, 1, 2, 3, 4, 5, 6, 7] (va_runV (As := [.int q5.1, .int q6.1]) (rest := []) ⟨hx, hb, hml, hown, hts⟩ (c_X1_copy l D cI cZ a1 a3 N q6.2.1 q6.2.2 q5.1 q6.1 q7 hq7 H.size) (cwV 2 hts gX1_addOrCopy_X1_copy rfl rfl rfl (by decide +kernel) ⟨Nat.le_of_ble_eq_true rfl, Nat.le_of_ble_eq_true rfl⟩) (pV [0, 1, 2, 3, 4, 5, 6, 7] hP hD hK hN rfl rfl rfl rfl) rfl rfl hl.1 rfl (lv_room (Nat.le_of_ble_eq_true rfl)) dX1_addOrCopy_15 ⟨Nat.le_of_ble_eq_true rfl, Nat.le_of_ble_eq_true rfl⟩) hP hD hS hA rfl rfl rfl (by decide) rfl rfl (fun H locs hP hD hS => ?_)
    refine lv_goto (tgt := 35) hx hb dX1_addOrCopy_18 (by decide) ?_
    exact k_X1_addOrCopy_35 C0 N q7.1 q7.2 _ _ _ hP hD hS (lv_sub hl [] rfl) h

theorem in_X1_addOpened_X1 : ∀ w ∈ u_ws RX1 TX1 8, w ∈ wsX1_addOpened := by decide +kernel
def f_X1_addOpened_50 (N : Nat) (k15 : St → St → Int32 → Int32 → Int32 → Option (St × St)) (t k : St) (x1 x2 x3 s1 s2 : Int32) : Option (St × St) := (f_X1_addOrCopy N t k s1 s2 x2).bind (fun q1 => (f_X1_code N q1.1 q1.2 x3).bind (fun q2 => (f_X3_pass N q2.2.2 q2.1).bind (fun q3 => k15 q2.2.1 q3 x1 x2 (x3 + 1))))
def f_X1_addOpened_15 (N : Nat) : Nat → St → St → Int32 → Int32 → Int32 → Option (St × St)
  | 0, _, _, _, _, _ => none
  | n + 1, t, k, x1, x2, x3 => (f_X1_end N t k x1).bind (fun q1 => if q1.1 ≤ x3 then some (q1.2.1, q1.2.2) else (f_X1_code N q1.2.1 q1.2.2 x3).bind (fun q3 => (f_X3_around N q3.2.2).bind (fun q4 => (f_X4_codeOf N 0 q4.1).bind (fun q5 => if q3.1 = q5.1 then f_X1_addOpened_50 N (f_X1_addOpened_15 N n) q3.2.1 q4.2 x1 x2 x3 x3 1 else f_X1_addOpened_50 N (f_X1_addOpened_15 N n) q3.2.1 q4.2 x1 x2 x3 x3 0))))
def f_X1_addOpened (N : Nat) (t k : St) (x1 x2 : Int32) : Option (St × St) := (f_X3_begin N k).bind (fun q1 => (f_X1_start N t q1 x1).bind (fun q2 => f_X1_addOpened_15 N N q2.2.1 q2.2.2 x1 x2 (q2.1 + 1)))
abbrev KP_X1_addOpened_50 (p : Program) (l : Launch) (e : Env) (s : State) (m : MethodId) (args : Array Value) (below : List Frame) (meth : Method) (c : Code) (D : va_G) (cI cZ : ClassId) (a1 a3 : Nat → Nat) (A : Nat → Prop) (u1 : St × St) (K : St → St → Int32 → Int32 → Int32 → Int32 → Int32 → Option (St × St)) : Prop := ∀ (t k : St) (x1 x2 x3 s1 s2 : Int32) (H : Heap) (locs : List Loc) (ls : Array Slot), va_P D vwCl (wX1 a1 a3 cI cZ (t, k)) H → va_D A (wX1 a1 a3 cI cZ (t, k)) → va_S A s.heap H locs → lv_has ls 4 [(0, .ref (a1 0)), (1, .int x1), (2, .int x2), (3, .int x3)] → K t k x1 x2 x3 s1 s2 = some u1 → W p l e ({ frames := 5, cells := 0, slots := 0, locals := 109 } : Room) s m args below meth c H locs 0 0 (QV below args s D cI cZ (wX1 a1 a3 cI cZ) A u1) (F0 m 50 ls [.int s2, .int s1, .ref (a1 0)])
abbrev KP_X1_addOpened_15 (p : Program) (l : Launch) (e : Env) (s : State) (m : MethodId) (args : Array Value) (below : List Frame) (meth : Method) (c : Code) (D : va_G) (cI cZ : ClassId) (a1 a3 : Nat → Nat) (A : Nat → Prop) (u1 : St × St) (K : St → St → Int32 → Int32 → Int32 → Option (St × St)) : Prop := ∀ (t k : St) (x1 x2 x3 : Int32) (H : Heap) (locs : List Loc) (ls : Array Slot), va_P D vwCl (wX1 a1 a3 cI cZ (t, k)) H → va_D A (wX1 a1 a3 cI cZ (t, k)) → va_S A s.heap H locs → lv_has ls 4 [(0, .ref (a1 0)), (1, .int x1), (2, .int x2), (3, .int x3)] → K t k x1 x2 x3 = some u1 → W p l e ({ frames := 5, cells := 0, slots := 0, locals := 109 } : Room) s m args below meth c H locs 0 0 (QV below args s D cI cZ (wX1 a1 a3 cI cZ) A u1) (F0 m 15 ls [])
set_option maxHeartbeats 4000000 in
set_option maxRecDepth 100000 in
theorem k_X1_addOpened_50 {p : Program} {l : Launch} {e : Env} {s : State} {m : MethodId} {args : Array Value} {below : List Frame} {meth : Method} {c : Code} {D : va_G} {cI cZ : ClassId} {a1 a3 : Nat → Nat} {A : Nat → Prop} {u1 : St × St} (C0 : mB p s m args meth c D cI cZ A cX1_addOpened 4 none wsX1_addOpened RX1) (N : Nat) (k15 : St → St → Int32 → Int32 → Int32 → Option (St × St)) (hk15 : KP_X1_addOpened_15 p l e s m args below meth c D cI cZ a1 a3 A u1 k15) : KP_X1_addOpened_50 p l e s m args below meth c D cI cZ a1 a3 A u1 (f_X1_addOpened_50 N k15) := by
  obtain ⟨hx, hb, hml, hr, hown, hts, hlocks, hA, hK, hN⟩ := id C0
  intro t k x1 x2 x3 s1 s2 H locs ls hP hD hS hl h
  unfold f_X1_addOpened_50 at h
  refine lv_iload_n hx hb dX1_addOpened_50 rfl (lv_at hl 2 rfl) ?_
  obtain ⟨q1, hq1, h⟩ := ob h
  refine mc_v (ws' := wX1 a1 a3 cI cZ (q1.1, q1.2)) (wr := ([] : va_W)) [0, 1, 2, 3, 4, 5, 6, 7] [] [0, 1, 2, 3, 4, 5, 6, 7] (va_runV (As := [.int s1, .int s2, .int x2]) (rest := []) ⟨hx, hb, hml, hown, hts⟩ (c_X1_addOrCopy l D cI cZ a1 a3 N t k s1 s2 x2 q1 hq1 H.size) (cwV 3 hts gX1_addOpened_X1_addOrCopy rfl rfl rfl (by decide +kernel) ⟨Nat.le_of_ble_eq_true rfl, Nat.le_of_ble_eq_true rfl⟩) (pV [0, 1, 2, 3, 4, 5, 6, 7] hP hD hK hN rfl rfl rfl rfl) rfl rfl hl.1 rfl (lv_room (Nat.le_of_ble_eq_true rfl)) dX1_addOpened_51 ⟨Nat.le_of_ble_eq_true rfl, Nat.le_of_ble_eq_true rfl⟩) hP hD hS hA rfl rfl rfl (by decide) rfl rfl (fun H locs hP hD hS => ?_)
  refine lv_aload_n hx hb dX1_addOpened_54 rfl (lv_at hl 0 rfl) ?_
  refine va_get (D := D) (ci := 1) (v := .ref (a3 0)) (C := RX1) (T := TX1) (N := 8) hx hb hts in_X1_addOpened_X1 hown hK hP 0 rfl rfl 4 (by decide) (hts (.fieldLink RX1 27 "TermLoom$TermStore" "walk" "LTermLoom$Walk;") (by decide +kernel)) (fun _ h9 => h9) rfl dX1_addOpened_55 ?_
  refine lv_aload_n hx hb dX1_addOpened_58 rfl (lv_at hl 0 rfl) ?_
  refine lv_iload_n hx hb dX1_addOpened_59 rfl (lv_at hl 3 rfl) ?_
  obtain ⟨q2, hq2, h⟩ := ob h
  refine mc_i (ws' := wX1 a1 a3 cI cZ (q2.2.1, q2.2.2)) (wr := ([] : va_W)) [0, 1, 2, 3, 4, 5, 6, 7] [] [0, 1, 2, 3, 4, 5, 6, 7] (va_runV (As := [.int x3]) (rest := [.ref (a3 0)]) ⟨hx, hb, hml, hown, hts⟩ (c_X1_code l D cI cZ a1 a3 N q1.1 q1.2 x3 q2.1 q2.2 hq2 H.size) (cwV 1 hts gX1_addOpened_X1_code rfl rfl rfl (by decide +kernel) ⟨Nat.le_of_ble_eq_true rfl, Nat.le_of_ble_eq_true rfl⟩) (pV [0, 1, 2, 3, 4, 5, 6, 7] hP hD hK hN rfl rfl rfl rfl) rfl rfl hl.1 rfl (lv_room (Nat.le_of_ble_eq_true rfl)) dX1_addOpened_60 ⟨Nat.le_of_ble_eq_true rfl, Nat.le_of_ble_eq_true rfl⟩) hP hD hS hA rfl rfl rfl (by decide) rfl rfl (fun H locs hP hD hS => ?_)
  obtain ⟨q3, hq3, h⟩ := ob h
  refine mc_v (ws' := wX1 a1 a3 cI cZ (q2.2.1, q3)) (wr := ((wX1o a1 a3 cI cZ q2.2.1) : va_W)) [5, 6, 7] [0, 1, 2, 3, 4] [0, 1, 2, 3, 4, 5, 6, 7] (va_runV (As := [.int q2.1]) (rest := []) ⟨hx, hb, hml, hown, hts⟩ (c_X3_pass l D cI cZ a3 N q2.2.2 q2.1 q3 hq3 H.size) (cwV 1 hts gX1_addOpened_X3_pass rfl rfl rfl (by decide +kernel) ⟨Nat.le_of_ble_eq_true rfl, Nat.le_of_ble_eq_true rfl⟩) (pV [5, 6, 7] hP hD hK hN rfl rfl rfl rfl) rfl rfl hl.1 rfl (lv_room (Nat.le_of_ble_eq_true rfl)) dX1_addOpened_63 ⟨Nat.le_of_ble_eq_true rfl, Nat.le_of_ble_eq_true rfl⟩) hP hD hS hA rfl rfl rfl (by decide) rfl rfl (fun H locs hP hD hS => ?_)
  refine lv_iinc (v := (x3 + 1)) (lv' := [(3, .int (x3 + 1)), (0, .ref (a1 0)), (1, .int x1), (2, .int x2)]) hx hb dX1_addOpened_66 hl (k := 3) rfl rfl (by decide) rfl (fun ls hl => ?_)
  refine lv_goto (tgt := 15) hx hb dX1_addOpened_69 (by decide) ?_
  exact hk15 q2.2.1 q3 x1 x2 (x3 + 1) _ _ _ hP hD hS (lv_sub hl [1, 2, 3, 0] rfl) h
set_option maxHeartbeats 4000000 in
set_option maxRecDepth 100000 in
theorem k_X1_addOpened_15 {p : Program} {l : Launch} {e : Env} {s : State} {m : MethodId} {args : Array Value} {below : List Frame} {meth : Method} {c : Code} {D : va_G} {cI cZ : ClassId} {a1 a3 : Nat → Nat} {A : Nat → Prop} {u1 : St × St} (C0 : mB p s m args meth c D cI cZ A cX1_addOpened 4 none wsX1_addOpened RX1) (N : Nat) : ∀ n : Nat, KP_X1_addOpened_15 p l e s m args below meth c D cI cZ a1 a3 A u1 (f_X1_addOpened_15 N n) := by
  obtain ⟨hx, hb, hml, hr, hown, hts, hlocks, hA, hK, hN⟩ := id C0
  intro n
  induction n with
  | zero =>
    intro t k x1 x2 x3 H locs ls hP hD hS hl h
    exact no (show (none : Option (St × St)) = _ from h)
  | succ n ih =>
    intro t k x1 x2 x3 H locs ls hP hD hS hl h
    rw [f_X1_addOpened_15] at h
    refine lv_iload_n hx hb dX1_addOpened_15 rfl (lv_at hl 3 rfl) ?_
    refine lv_aload_n hx hb dX1_addOpened_16 rfl (lv_at hl 0 rfl) ?_
    refine lv_iload_n hx hb dX1_addOpened_17 rfl (lv_at hl 1 rfl) ?_
    obtain ⟨q1, hq1, h⟩ := ob h
    refine mc_i (ws' := wX1 a1 a3 cI cZ (q1.2.1, q1.2.2)) (wr := ([] : va_W)) [0, 1, 2, 3, 4, 5, 6, 7] [] [0, 1, 2, 3, 4, 5, 6, 7] (va_runV (As := [.int x1]) (rest := [.int x3]) ⟨hx, hb, hml, hown, hts⟩ (c_X1_end l D cI cZ a1 a3 N t k x1 q1.1 q1.2 hq1 H.size) (cwV 1 hts gX1_addOpened_X1_end rfl rfl rfl (by decide +kernel) ⟨Nat.le_of_ble_eq_true rfl, Nat.le_of_ble_eq_true rfl⟩) (pV [0, 1, 2, 3, 4, 5, 6, 7] hP hD hK hN rfl rfl rfl rfl) rfl rfl hl.1 rfl (lv_room (Nat.le_of_ble_eq_true rfl)) dX1_addOpened_18 ⟨Nat.le_of_ble_eq_true rfl, Nat.le_of_ble_eq_true rfl⟩) hP hD hS hA rfl rfl rfl (by decide) rfl rfl (fun H locs hP hD hS => ?_)
    refine lv_icmp_ge (tgt := 72) hx hb dX1_addOpened_21 (by decide) (fun hc2 => ?_) (fun hc2 => ?_)
    · rw [if_pos hc2] at h
      obtain rfl := so1 h
      exact ret_v C0 hP hD hS dX1_addOpened_72
    · rw [if_neg hc2] at h
      refine lv_aload_n hx hb dX1_addOpened_24 rfl (lv_at hl 0 rfl) ?_
      refine lv_iload_n hx hb dX1_addOpened_25 rfl (lv_at hl 3 rfl) ?_
      refine lv_aload_n hx hb dX1_addOpened_26 rfl (lv_at hl 0 rfl) ?_
      refine lv_iload_n hx hb dX1_addOpened_27 rfl (lv_at hl 3 rfl) ?_
      obtain ⟨q3, hq3, h⟩ := ob h
      refine mc_i (ws' := wX1 a1 a3 cI cZ (q3.2.1, q3.2.2)) (wr := ([] : va_W)) [0, 1, 2, 3, 4, 5, 6, 7] [] [0, 1, 2, 3, 4, 5, 6, 7] (va_runV (As := [.int x3]) (rest := [.int x3, .ref (a1 0)]) ⟨hx, hb, hml, hown, hts⟩ (c_X1_code l D cI cZ a1 a3 N q1.2.1 q1.2.2 x3 q3.1 q3.2 hq3 H.size) (cwV 1 hts gX1_addOpened_X1_code rfl rfl rfl (by decide +kernel) ⟨Nat.le_of_ble_eq_true rfl, Nat.le_of_ble_eq_true rfl⟩) (pV [0, 1, 2, 3, 4, 5, 6, 7] hP hD hK hN rfl rfl rfl rfl) rfl rfl hl.1 rfl (lv_room (Nat.le_of_ble_eq_true rfl)) dX1_addOpened_28 ⟨Nat.le_of_ble_eq_true rfl, Nat.le_of_ble_eq_true rfl⟩) hP hD hS hA rfl rfl rfl (by decide) rfl rfl (fun H locs hP hD hS => ?_)
      refine lv_iconst (v := 0) hx hb dX1_addOpened_31 rfl ?_
      refine lv_aload_n hx hb dX1_addOpened_32 rfl (lv_at hl 0 rfl) ?_
      refine va_get (D := D) (ci := 1) (v := .ref (a3 0)) (C := RX1) (T := TX1) (N := 8) hx hb hts in_X1_addOpened_X1 hown hK hP 0 rfl rfl 4 (by decide) (hts (.fieldLink RX1 27 "TermLoom$TermStore" "walk" "LTermLoom$Walk;") (by decide +kernel)) (fun _ h9 => h9) rfl dX1_addOpened_33 ?_
      obtain ⟨q4, hq4, h⟩ := ob h
      refine mc_i (ws' := wX1 a1 a3 cI cZ (q3.2.1, q4.2)) (wr := ((wX1o a1 a3 cI cZ q3.2.1) : va_W)) [5, 6, 7] [0, 1, 2, 3, 4] [0, 1, 2, 3, 4, 5, 6, 7] (va_runV (As := []) (rest := [.int 0, .int q3.1, .int x3, .ref (a1 0)]) ⟨hx, hb, hml, hown, hts⟩ (c_X3_around l D cI cZ a3 N q3.2.2 q4.1 q4.2 hq4 H.size) (cwV 0 hts gX1_addOpened_X3_around rfl rfl rfl (by decide +kernel) ⟨Nat.le_of_ble_eq_true rfl, Nat.le_of_ble_eq_true rfl⟩) (pV [5, 6, 7] hP hD hK hN rfl rfl rfl rfl) rfl rfl hl.1 rfl (lv_room (Nat.le_of_ble_eq_true rfl)) dX1_addOpened_36 ⟨Nat.le_of_ble_eq_true rfl, Nat.le_of_ble_eq_true rfl⟩) hP hD hS hA rfl rfl rfl (by decide) rfl rfl (fun H locs hP hD hS => ?_)
      obtain ⟨q5, hq5, h⟩ := ob h
      refine mc_i (ws' := wX1 a1 a3 cI cZ (q3.2.1, q4.2)) (wr := ((wX1o a1 a3 cI cZ q3.2.1) ++ (wX3o a3 cI cZ q4.2) : va_W)) [] [0, 1, 2, 3, 4, 5, 6, 7] [0, 1, 2, 3, 4, 5, 6, 7] (va_runSN (As := [.int 0, .int q4.1]) (rest := [.int q3.1, .int x3, .ref (a1 0)]) ⟨hx, hb, hml, hown, hts⟩ (c_X4_codeOf l D cI cZ N 0 q4.1 q5.1 q5.2 hq5 H.size) ⟨va_cnB 2 hts gX1_addOpened_X4_codeOf_n102 rfl rfl rfl (nw_X1_102 hN) (hts (.initialized RX4) (by decide +kernel)) (by decide +kernel) ⟨Nat.le_of_ble_eq_true rfl, Nat.le_of_ble_eq_true rfl⟩, hts (.static yX4_codeOf) (by decide +kernel), trivial⟩ (pS [] hP hD hK hN rfl rfl) rfl rfl hl.1 rfl (lv_room (Nat.le_of_ble_eq_true rfl)) dX1_addOpened_39 ⟨Nat.le_of_ble_eq_true rfl, Nat.le_of_ble_eq_true rfl⟩) hP hD hS hA rfl rfl rfl (by decide) rfl rfl (fun H locs hP hD hS => ?_)
      refine lv_icmp_ne (tgt := 49) hx hb dX1_addOpened_42 (by decide) (fun hc6 => ?_) (fun hc6 => ?_)
      · rw [if_neg hc6] at h
        refine lv_iconst (v := 0) hx hb dX1_addOpened_49 rfl ?_
        exact k_X1_addOpened_50 C0 N (f_X1_addOpened_15 N n) ih q3.2.1 q4.2 x1 x2 x3 x3 0 _ _ _ hP hD hS (lv_sub hl [0, 1, 2, 3] rfl) h
      · rw [if_pos hc6] at h
        refine lv_iconst (v := 1) hx hb dX1_addOpened_45 rfl ?_
        refine lv_goto (tgt := 50) hx hb dX1_addOpened_46 (by decide) ?_
        exact k_X1_addOpened_50 C0 N (f_X1_addOpened_15 N n) ih q3.2.1 q4.2 x1 x2 x3 x3 1 _ _ _ hP hD hS (lv_sub hl [0, 1, 2, 3] rfl) h
set_option maxHeartbeats 4000000 in
set_option maxRecDepth 100000 in
theorem c_X1_addOpened (l : Launch) (D : va_G) (cI cZ : ClassId) (a1 a3 : Nat → Nat) (N : Nat) (t k : St) (x1 x2 : Int32) : MV l yX1_addOpened wsX1_addOpened ({ frames := 5, cells := 0, slots := 0, locals := 109 } : Room) D cI cZ (wX1 a1 a3 cI cZ) [.ref (a1 0), .int x1, .int x2] (t, k) (f_X1_addOpened N t k x1 x2) := by
  refine MV.of (cc := cX1_addOpened) (maxL := 4) (ret := none) (own := RX1) (by decide) rfl rfl (Nat.le_of_ble_eq_true rfl) ?_
  intro u1 h p e s m args below meth c A C0 H locs ls hP hD hS hl
  obtain ⟨hx, hb, hml, hr, hown, hts, hlocks, hA, hK, hN⟩ := id C0
  have hl : lv_has ls 4 [(0, .ref (a1 0)), (1, .int x1), (2, .int x2)] := hl
  unfold f_X1_addOpened at h
  refine lv_aload_n hx hb dX1_addOpened_0 rfl (lv_at hl 0 rfl) ?_
  refine va_get (D := D) (ci := 1) (v := .ref (a3 0)) (C := RX1) (T := TX1) (N := 8) hx hb hts in_X1_addOpened_X1 hown hK hP 0 rfl rfl 4 (by decide) (hts (.fieldLink RX1 27 "TermLoom$TermStore" "walk" "LTermLoom$Walk;") (by decide +kernel)) (fun _ h9 => h9) rfl dX1_addOpened_1 ?_
  obtain ⟨q1, hq1, h⟩ := ob h
  refine mc_v (ws' := wX1 a1 a3 cI cZ (t, q1)) (wr := ((wX1o a1 a3 cI cZ t) : va_W)) [5, 6, 7] [0, 1, 2, 3, 4] [0, 1, 2, 3, 4, 5, 6, 7] (va_runV (As := []) (rest := []) ⟨hx, hb, hml, hown, hts⟩ (c_X3_begin l D cI cZ a3 N k q1 hq1 H.size) (cwV 0 hts gX1_addOpened_X3_begin rfl rfl rfl (by decide +kernel) ⟨Nat.le_of_ble_eq_true rfl, Nat.le_of_ble_eq_true rfl⟩) (pV [5, 6, 7] hP hD hK hN rfl rfl rfl rfl) rfl rfl hl.1 rfl (lv_room (Nat.le_of_ble_eq_true rfl)) dX1_addOpened_4 ⟨Nat.le_of_ble_eq_true rfl, Nat.le_of_ble_eq_true rfl⟩) hP hD hS hA rfl rfl rfl (by decide) rfl rfl (fun H locs hP hD hS => ?_)
  refine lv_aload_n hx hb dX1_addOpened_7 rfl (lv_at hl 0 rfl) ?_
  refine lv_iload_n hx hb dX1_addOpened_8 rfl (lv_at hl 1 rfl) ?_
  obtain ⟨q2, hq2, h⟩ := ob h
  refine mc_i (ws' := wX1 a1 a3 cI cZ (q2.2.1, q2.2.2)) (wr := ([] : va_W)) [0, 1, 2, 3, 4, 5, 6, 7] [] [0, 1, 2, 3, 4, 5, 6, 7] (va_runV (As := [.int x1]) (rest := []) ⟨hx, hb, hml, hown, hts⟩ (c_X1_start l D cI cZ a1 a3 N t q1 x1 q2.1 q2.2 hq2 H.size) (cwV 1 hts gX1_addOpened_X1_start rfl rfl rfl (by decide +kernel) ⟨Nat.le_of_ble_eq_true rfl, Nat.le_of_ble_eq_true rfl⟩) (pV [0, 1, 2, 3, 4, 5, 6, 7] hP hD hK hN rfl rfl rfl rfl) rfl rfl hl.1 rfl (lv_room (Nat.le_of_ble_eq_true rfl)) dX1_addOpened_9 ⟨Nat.le_of_ble_eq_true rfl, Nat.le_of_ble_eq_true rfl⟩) hP hD hS hA rfl rfl rfl (by decide) rfl rfl (fun H locs hP hD hS => ?_)
  refine lv_iconst (v := 1) hx hb dX1_addOpened_12 rfl ?_
  refine lv_iadd hx hb dX1_addOpened_13 ?_
  refine lv_istore_n (lv' := [(3, .int (q2.1 + 1)), (0, .ref (a1 0)), (1, .int x1), (2, .int x2)]) hx hb dX1_addOpened_14 rfl hl (by decide) rfl (fun ls hl => ?_)
  exact k_X1_addOpened_15 C0 N N q2.2.1 q2.2.2 x1 x2 (q2.1 + 1) _ _ _ hP hD hS (lv_sub hl [1, 2, 3, 0] rfl) h

def f_X1_addReplaced_7 (N : Nat) : Nat → St → St → Int32 → Int32 → Int32 → Int32 → Option (St × St)
  | 0, _, _, _, _, _, _ => none
  | n + 1, t, k, x1, x2, x3, x4 => (f_X1_end N t k x1).bind (fun q1 => if q1.1 ≤ x4 then some (q1.2.1, q1.2.2) else (f_X1_isVariable N q1.2.1 q1.2.2 x4 x2).bind (fun q3 => (f_X1_addOrCopy N q3.2.1 q3.2.2 x4 q3.1 x3).bind (fun q4 => f_X1_addReplaced_7 N n q4.1 q4.2 x1 x2 x3 (x4 + 1))))
def f_X1_addReplaced (N : Nat) (t k : St) (x1 x2 x3 : Int32) : Option (St × St) := (f_X1_start N t k x1).bind (fun q1 => f_X1_addReplaced_7 N N q1.2.1 q1.2.2 x1 x2 x3 q1.1)
abbrev KP_X1_addReplaced_7 (p : Program) (l : Launch) (e : Env) (s : State) (m : MethodId) (args : Array Value) (below : List Frame) (meth : Method) (c : Code) (D : va_G) (cI cZ : ClassId) (a1 a3 : Nat → Nat) (A : Nat → Prop) (u1 : St × St) (K : St → St → Int32 → Int32 → Int32 → Int32 → Option (St × St)) : Prop := ∀ (t k : St) (x1 x2 x3 x4 : Int32) (H : Heap) (locs : List Loc) (ls : Array Slot), va_P D vwCl (wX1 a1 a3 cI cZ (t, k)) H → va_D A (wX1 a1 a3 cI cZ (t, k)) → va_S A s.heap H locs → lv_has ls 5 [(0, .ref (a1 0)), (1, .int x1), (2, .int x2), (3, .int x3), (4, .int x4)] → K t k x1 x2 x3 x4 = some u1 → W p l e ({ frames := 5, cells := 0, slots := 0, locals := 109 } : Room) s m args below meth c H locs 0 0 (QV below args s D cI cZ (wX1 a1 a3 cI cZ) A u1) (F0 m 7 ls [])
set_option maxHeartbeats 4000000 in
set_option maxRecDepth 100000 in
theorem k_X1_addReplaced_7 {p : Program} {l : Launch} {e : Env} {s : State} {m : MethodId} {args : Array Value} {below : List Frame} {meth : Method} {c : Code} {D : va_G} {cI cZ : ClassId} {a1 a3 : Nat → Nat} {A : Nat → Prop} {u1 : St × St} (C0 : mB p s m args meth c D cI cZ A cX1_addReplaced 5 none wsX1_addReplaced RX1) (N : Nat) : ∀ n : Nat, KP_X1_addReplaced_7 p l e s m args below meth c D cI cZ a1 a3 A u1 (f_X1_addReplaced_7 N n) := by
  obtain ⟨hx, hb, hml, hr, hown, hts, hlocks, hA, hK, hN⟩ := id C0
  intro n
  induction n with
  | zero =>
    intro t k x1 x2 x3 x4 H locs ls hP hD hS hl h
    exact no (show (none : Option (St × St)) = _ from h)
  | succ n ih =>
    intro t k x1 x2 x3 x4 H locs ls hP hD hS hl h
    rw [f_X1_addReplaced_7] at h
    refine lv_iload hx hb dX1_addReplaced_7 (lv_at hl 4 rfl) ?_
    refine lv_aload_n hx hb dX1_addReplaced_9 rfl (lv_at hl 0 rfl) ?_
    refine lv_iload_n hx hb dX1_addReplaced_10 rfl (lv_at hl 1 rfl) ?_
    obtain ⟨q1, hq1, h⟩ := ob h
    refine mc_i (ws' := wX1 a1 a3 cI cZ (q1.2.1, q1.2.2)) (wr := ([] : va_W)) [0, 1, 2, 3, 4, 5, 6, 7] [] [0, 1, 2, 3, 4, 5, 6, 7] (va_runV (As := [.int x1]) (rest := [.int x4]) ⟨hx, hb, hml, hown, hts⟩ (c_X1_end l D cI cZ a1 a3 N t k x1 q1.1 q1.2 hq1 H.size) (cwV 1 hts gX1_addReplaced_X1_end rfl rfl rfl (by decide +kernel) ⟨Nat.le_of_ble_eq_true rfl, Nat.le_of_ble_eq_true rfl⟩) (pV [0, 1, 2, 3, 4, 5, 6, 7] hP hD hK hN rfl rfl rfl rfl) rfl rfl hl.1 rfl (lv_room (Nat.le_of_ble_eq_true rfl)) dX1_addReplaced_11 ⟨Nat.le_of_ble_eq_true rfl, Nat.le_of_ble_eq_true rfl⟩) hP hD hS hA rfl rfl rfl (by decide) rfl rfl (fun H locs hP hD hS => ?_)
    refine lv_icmp_ge (tgt := 37) hx hb dX1_addReplaced_14 (by decide) (fun hc2 => ?_) (fun hc2 => ?_)
    · rw [if_pos hc2] at h
      obtain rfl := so1 h
      exact ret_v C0 hP hD hS dX1_addReplaced_37
    · rw [if_neg hc2] at h
      refine lv_aload_n hx hb dX1_addReplaced_17 rfl (lv_at hl 0 rfl) ?_
      refine lv_iload hx hb dX1_addReplaced_18 (lv_at hl 4 rfl) ?_
      refine lv_aload_n hx hb dX1_addReplaced_20 rfl (lv_at hl 0 rfl) ?_
      refine lv_iload hx hb dX1_addReplaced_21 (lv_at hl 4 rfl) ?_
      refine lv_iload_n hx hb dX1_addReplaced_23 rfl (lv_at hl 2 rfl) ?_
      obtain ⟨q3, hq3, h⟩ := ob h
      refine mc_i (ws' := wX1 a1 a3 cI cZ (q3.2.1, q3.2.2)) (wr := ([] : va_W)) [0, 1, 2, 3, 4, 5, 6, 7] [] [0, 1, 2, 3, 4, 5, 6, 7] (va_runV (As := [.int x4, .int x2]) (rest := [.int x4, .ref (a1 0)]) ⟨hx, hb, hml, hown, hts⟩ (c_X1_isVariable l D cI cZ a1 a3 N q1.2.1 q1.2.2 x4 x2 q3.1 q3.2 hq3 H.size) (cwV 2 hts gX1_addReplaced_X1_isVariable rfl rfl rfl (by decide +kernel) ⟨Nat.le_of_ble_eq_true rfl, Nat.le_of_ble_eq_true rfl⟩) (pV [0, 1, 2, 3, 4, 5, 6, 7] hP hD hK hN rfl rfl rfl rfl) rfl rfl hl.1 rfl (lv_room (Nat.le_of_ble_eq_true rfl)) dX1_addReplaced_24 ⟨Nat.le_of_ble_eq_true rfl, Nat.le_of_ble_eq_true rfl⟩) hP hD hS hA rfl rfl rfl (by decide) rfl rfl (fun H locs hP hD hS => ?_)
      refine lv_iload_n hx hb dX1_addReplaced_27 rfl (lv_at hl 3 rfl) ?_
      obtain ⟨q4, hq4, h⟩ := ob h
      refine mc_v (ws' := wX1 a1 a3 cI cZ (q4.1, q4.2)) (wr := ([] : va_W)) [0, 1, 2, 3, 4, 5, 6, 7] [] [0, 1, 2, 3, 4, 5, 6, 7] (va_runV (As := [.int x4, .int q3.1, .int x3]) (rest := []) ⟨hx, hb, hml, hown, hts⟩ (c_X1_addOrCopy l D cI cZ a1 a3 N q3.2.1 q3.2.2 x4 q3.1 x3 q4 hq4 H.size) (cwV 3 hts gX1_addReplaced_X1_addOrCopy rfl rfl rfl (by decide +kernel) ⟨Nat.le_of_ble_eq_true rfl, Nat.le_of_ble_eq_true rfl⟩) (pV [0, 1, 2, 3, 4, 5, 6, 7] hP hD hK hN rfl rfl rfl rfl) rfl rfl hl.1 rfl (lv_room (Nat.le_of_ble_eq_true rfl)) dX1_addReplaced_28 ⟨Nat.le_of_ble_eq_true rfl, Nat.le_of_ble_eq_true rfl⟩) hP hD hS hA rfl rfl rfl (by decide) rfl rfl (fun H locs hP hD hS => ?_)
      refine lv_iinc (v := (x4 + 1)) (lv' := [(4, .int (x4 + 1)), (0, .ref (a1 0)), (1, .int x1), (2, .int x2), (3, .int x3)]) hx hb dX1_addReplaced_31 hl (k := 4) rfl rfl (by decide) rfl (fun ls hl => ?_)
      refine lv_goto (tgt := 7) hx hb dX1_addReplaced_34 (by decide) ?_
      exact ih q4.1 q4.2 x1 x2 x3 (x4 + 1) _ _ _ hP hD hS (lv_sub hl [1, 2, 3, 4, 0] rfl) h
set_option maxHeartbeats 4000000 in
set_option maxRecDepth 100000 in
theorem c_X1_addReplaced (l : Launch) (D : va_G) (cI cZ : ClassId) (a1 a3 : Nat → Nat) (N : Nat) (t k : St) (x1 x2 x3 : Int32) : MV l yX1_addReplaced wsX1_addReplaced ({ frames := 5, cells := 0, slots := 0, locals := 109 } : Room) D cI cZ (wX1 a1 a3 cI cZ) [.ref (a1 0), .int x1, .int x2, .int x3] (t, k) (f_X1_addReplaced N t k x1 x2 x3) := by
  refine MV.of (cc := cX1_addReplaced) (maxL := 5) (ret := none) (own := RX1) (by decide) rfl rfl (Nat.le_of_ble_eq_true rfl) ?_
  intro u1 h p e s m args below meth c A C0 H locs ls hP hD hS hl
  obtain ⟨hx, hb, hml, hr, hown, hts, hlocks, hA, hK, hN⟩ := id C0
  have hl : lv_has ls 5 [(0, .ref (a1 0)), (1, .int x1), (2, .int x2), (3, .int x3)] := hl
  unfold f_X1_addReplaced at h
  refine lv_aload_n hx hb dX1_addReplaced_0 rfl (lv_at hl 0 rfl) ?_
  refine lv_iload_n hx hb dX1_addReplaced_1 rfl (lv_at hl 1 rfl) ?_
  obtain ⟨q1, hq1, h⟩ := ob h
  refine mc_i (ws' := wX1 a1 a3 cI cZ (q1.2.1, q1.2.2)) (wr := ([] : va_W)) [0, 1, 2, 3, 4, 5, 6, 7] [] [0, 1, 2, 3, 4, 5, 6, 7] (va_runV (As := [.int x1]) (rest := []) ⟨hx, hb, hml, hown, hts⟩ (c_X1_start l D cI cZ a1 a3 N t k x1 q1.1 q1.2 hq1 H.size) (cwV 1 hts gX1_addReplaced_X1_start rfl rfl rfl (by decide +kernel) ⟨Nat.le_of_ble_eq_true rfl, Nat.le_of_ble_eq_true rfl⟩) (pV [0, 1, 2, 3, 4, 5, 6, 7] hP hD hK hN rfl rfl rfl rfl) rfl rfl hl.1 rfl (lv_room (Nat.le_of_ble_eq_true rfl)) dX1_addReplaced_2 ⟨Nat.le_of_ble_eq_true rfl, Nat.le_of_ble_eq_true rfl⟩) hP hD hS hA rfl rfl rfl (by decide) rfl rfl (fun H locs hP hD hS => ?_)
  refine lv_istore (lv' := [(4, .int q1.1), (0, .ref (a1 0)), (1, .int x1), (2, .int x2), (3, .int x3)]) hx hb dX1_addReplaced_5 hl (by decide) rfl (fun ls hl => ?_)
  exact k_X1_addReplaced_7 C0 N N q1.2.1 q1.2.2 x1 x2 x3 q1.1 _ _ _ hP hD hS (lv_sub hl [1, 2, 3, 4, 0] rfl) h

def f_X1_addRetyped_6 (N : Nat) : Nat → St → St → St → Int32 → Int32 → Option (Int32 × (St × St × St))
  | 0, _, _, _, _, _ => none
  | n + 1, t, k, y, x1, x3 => (f_X1_end N t k x1).bind (fun q1 => if q1.1 ≤ x3 then some (1, (q1.2.1, q1.2.2, y)) else (f_X1_symbolType N q1.2.1 q1.2.2 x3).bind (fun q3 => (f_X2_image N y q3.1).bind (fun q4 => if q4.1 = (-1) then some (0, (q3.2.1, q3.2.2, q4.2)) else (f_X1_code N q3.2.1 q3.2.2 x3).bind (fun q6 => (f_X1_add N q6.2.1 q6.2.2 q6.1 q4.1).bind (fun q7 => f_X1_addRetyped_6 N n q7.1 q7.2 q4.2 x1 (x3 + 1))))))
def f_X1_addRetyped (N : Nat) (t k y : St) (x1 : Int32) : Option (Int32 × (St × St × St)) := (f_X1_start N t k x1).bind (fun q1 => f_X1_addRetyped_6 N N q1.2.1 q1.2.2 y x1 q1.1)
abbrev KP_X1_addRetyped_6 (p : Program) (l : Launch) (e : Env) (s : State) (m : MethodId) (args : Array Value) (below : List Frame) (meth : Method) (c : Code) (D : va_G) (cI cZ : ClassId) (a1 a3 a2 : Nat → Nat) (A : Nat → Prop) (r : Int32) (u1 : St × St × St) (K : St → St → St → Int32 → Int32 → Option (Int32 × (St × St × St))) : Prop := ∀ (t k y : St) (x1 x3 : Int32) (H : Heap) (locs : List Loc) (ls : Array Slot), va_P D vwCl (wX1y a1 a3 a2 cI cZ (t, k, y)) H → va_D A (wX1y a1 a3 a2 cI cZ (t, k, y)) → va_S A s.heap H locs → lv_has ls 5 [(0, .ref (a1 0)), (1, .int x1), (2, .ref (a2 0)), (3, .int x3)] → K t k y x1 x3 = some (r, u1) → W p l e ({ frames := 128, cells := 0, slots := 0, locals := 5043 } : Room) s m args below meth c H locs 0 0 (QI below args s D cI cZ (wX1y a1 a3 a2 cI cZ) A r u1) (F0 m 6 ls [])
set_option maxHeartbeats 4000000 in
set_option maxRecDepth 100000 in
theorem k_X1_addRetyped_6 {p : Program} {l : Launch} {e : Env} {s : State} {m : MethodId} {args : Array Value} {below : List Frame} {meth : Method} {c : Code} {D : va_G} {cI cZ : ClassId} {a1 a3 a2 : Nat → Nat} {A : Nat → Prop} {r : Int32} {u1 : St × St × St} (C0 : mB p s m args meth c D cI cZ A cX1_addRetyped 5 (some .boolean) wsX1_addRetyped RX1) (N : Nat) : ∀ n : Nat, KP_X1_addRetyped_6 p l e s m args below meth c D cI cZ a1 a3 a2 A r u1 (f_X1_addRetyped_6 N n) := by
  obtain ⟨hx, hb, hml, hr, hown, hts, hlocks, hA, hK, hN⟩ := id C0
  intro n
  induction n with
  | zero =>
    intro t k y x1 x3 H locs ls hP hD hS hl h
    exact no (show (none : Option (Int32 × (St × St × St))) = _ from h)
  | succ n ih =>
    intro t k y x1 x3 H locs ls hP hD hS hl h
    rw [f_X1_addRetyped_6] at h
    refine lv_iload_n hx hb dX1_addRetyped_6 rfl (lv_at hl 3 rfl) ?_
    refine lv_aload_n hx hb dX1_addRetyped_7 rfl (lv_at hl 0 rfl) ?_
    refine lv_iload_n hx hb dX1_addRetyped_8 rfl (lv_at hl 1 rfl) ?_
    obtain ⟨q1, hq1, h⟩ := ob h
    refine mc_i (ws' := wX1y a1 a3 a2 cI cZ (q1.2.1, q1.2.2, y)) (wr := ((wX2o a2 cI cZ y) : va_W)) [0, 1, 2, 3, 4, 5, 6, 7] [8, 9, 10, 11, 12, 13, 14, 15, 16, 17, 18] [11, 12, 13, 14, 15, 16, 17, 18, 0, 1, 2, 3, 4, 5, 6, 7, 8, 9, 10] (va_runV (As := [.int x1]) (rest := [.int x3]) ⟨hx, hb, hml, hown, hts⟩ (c_X1_end l D cI cZ a1 a3 N t k x1 q1.1 q1.2 hq1 H.size) (cwV 1 hts gX1_addRetyped_X1_end rfl rfl rfl (by decide +kernel) ⟨Nat.le_of_ble_eq_true rfl, Nat.le_of_ble_eq_true rfl⟩) (pV [0, 1, 2, 3, 4, 5, 6, 7] hP hD hK hN rfl rfl rfl rfl) rfl rfl hl.1 rfl (lv_room (Nat.le_of_ble_eq_true rfl)) dX1_addRetyped_9 ⟨Nat.le_of_ble_eq_true rfl, Nat.le_of_ble_eq_true rfl⟩) hP hD hS hA rfl rfl rfl (by decide) rfl rfl (fun H locs hP hD hS => ?_)
    refine lv_icmp_ge (tgt := 51) hx hb dX1_addRetyped_12 (by decide) (fun hc2 => ?_) (fun hc2 => ?_)
    · rw [if_pos hc2] at h
      refine lv_iconst (v := 1) hx hb dX1_addRetyped_51 rfl ?_
      obtain ⟨rfl, rfl⟩ := so h
      exact ret_z C0 (Or.inr rfl) hP hD hS dX1_addRetyped_52
    · rw [if_neg hc2] at h
      refine lv_aload_n hx hb dX1_addRetyped_15 rfl (lv_at hl 2 rfl) ?_
      refine lv_aload_n hx hb dX1_addRetyped_16 rfl (lv_at hl 0 rfl) ?_
      refine lv_iload_n hx hb dX1_addRetyped_17 rfl (lv_at hl 3 rfl) ?_
      obtain ⟨q3, hq3, h⟩ := ob h
      refine mc_i (ws' := wX1y a1 a3 a2 cI cZ (q3.2.1, q3.2.2, y)) (wr := ((wX2o a2 cI cZ y) : va_W)) [0, 1, 2, 3, 4, 5, 6, 7] [8, 9, 10, 11, 12, 13, 14, 15, 16, 17, 18] [11, 12, 13, 14, 15, 16, 17, 18, 0, 1, 2, 3, 4, 5, 6, 7, 8, 9, 10] (va_runV (As := [.int x3]) (rest := [.ref (a2 0)]) ⟨hx, hb, hml, hown, hts⟩ (c_X1_symbolType l D cI cZ a1 a3 N q1.2.1 q1.2.2 x3 q3.1 q3.2 hq3 H.size) (cwV 1 hts gX1_addRetyped_X1_symbolType rfl rfl rfl (by decide +kernel) ⟨Nat.le_of_ble_eq_true rfl, Nat.le_of_ble_eq_true rfl⟩) (pV [0, 1, 2, 3, 4, 5, 6, 7] hP hD hK hN rfl rfl rfl rfl) rfl rfl hl.1 rfl (lv_room (Nat.le_of_ble_eq_true rfl)) dX1_addRetyped_18 ⟨Nat.le_of_ble_eq_true rfl, Nat.le_of_ble_eq_true rfl⟩) hP hD hS hA rfl rfl rfl (by decide) rfl rfl (fun H locs hP hD hS => ?_)
      obtain ⟨q4, hq4, h⟩ := ob h
      refine mc_i (ws' := wX1y a1 a3 a2 cI cZ (q3.2.1, q3.2.2, q4.2)) (wr := ((wX1o a1 a3 cI cZ q3.2.1) ++ (wX3o a3 cI cZ q3.2.2) : va_W)) [8, 9, 10, 11, 12, 13, 14, 15, 16, 17, 18] [0, 1, 2, 3, 4, 5, 6, 7] [0, 1, 2, 3, 4, 5, 6, 7, 8, 9, 10, 11, 12, 13, 14, 15, 16, 17, 18] (va_runV (As := [.int q3.1]) (rest := []) ⟨hx, hb, hml, hown, hts⟩ (c_X2_image l D cI cZ a2 N y q3.1 q4.1 q4.2 hq4 H.size) (cwV 1 hts gX1_addRetyped_X2_image rfl rfl rfl (by decide +kernel) ⟨Nat.le_of_ble_eq_true rfl, Nat.le_of_ble_eq_true rfl⟩) (pV [8, 9, 10, 11, 12, 13, 14, 15, 16, 17, 18] hP hD hK hN rfl rfl rfl rfl) rfl rfl hl.1 rfl (lv_room (Nat.le_of_ble_eq_true rfl)) dX1_addRetyped_21 ⟨Nat.le_of_ble_eq_true rfl, Nat.le_of_ble_eq_true rfl⟩) hP hD hS hA rfl rfl rfl (by decide) rfl rfl (fun H locs hP hD hS => ?_)
      refine lv_istore (lv' := [(4, .int q4.1), (0, .ref (a1 0)), (1, .int x1), (2, .ref (a2 0)), (3, .int x3)]) hx hb dX1_addRetyped_24 hl (by decide) rfl (fun ls hl => ?_)
      refine lv_iload hx hb dX1_addRetyped_26 (lv_at hl 0 rfl) ?_
      refine lv_iconst (v := (-1)) hx hb dX1_addRetyped_28 rfl ?_
      refine lv_icmp_ne (tgt := 34) hx hb dX1_addRetyped_29 (by decide) (fun hc5 => ?_) (fun hc5 => ?_)
      · rw [if_neg hc5] at h
        refine lv_aload_n hx hb dX1_addRetyped_34 rfl (lv_at hl 1 rfl) ?_
        refine lv_aload_n hx hb dX1_addRetyped_35 rfl (lv_at hl 1 rfl) ?_
        refine lv_iload_n hx hb dX1_addRetyped_36 rfl (lv_at hl 4 rfl) ?_
        obtain ⟨q6, hq6, h⟩ := ob h
        refine mc_i (ws' := wX1y a1 a3 a2 cI cZ (q6.2.1, q6.2.2, q4.2)) (wr := ((wX2o a2 cI cZ q4.2) : va_W)) [0, 1, 2, 3, 4, 5, 6, 7] [8, 9, 10, 11, 12, 13, 14, 15, 16, 17, 18] [11, 12, 13, 14, 15, 16, 17, 18, 0, 1, 2, 3, 4, 5, 6, 7, 8, 9, 10] (va_runV (As := [.int x3]) (rest := [.ref (a1 0)]) ⟨hx, hb, hml, hown, hts⟩ (c_X1_code l D cI cZ a1 a3 N q3.2.1 q3.2.2 x3 q6.1 q6.2 hq6 H.size) (cwV 1 hts gX1_addRetyped_X1_code rfl rfl rfl (by decide +kernel) ⟨Nat.le_of_ble_eq_true rfl, Nat.le_of_ble_eq_true rfl⟩) (pV [0, 1, 2, 3, 4, 5, 6, 7] hP hD hK hN rfl rfl rfl rfl) rfl rfl hl.1 rfl (lv_room (Nat.le_of_ble_eq_true rfl)) dX1_addRetyped_37 ⟨Nat.le_of_ble_eq_true rfl, Nat.le_of_ble_eq_true rfl⟩) hP hD hS hA rfl rfl rfl (by decide) rfl rfl (fun H locs hP hD hS => ?_)
        refine lv_iload hx hb dX1_addRetyped_40 (lv_at hl 0 rfl) ?_
        obtain ⟨q7, hq7, h⟩ := ob h
        refine mc_v (ws' := wX1y a1 a3 a2 cI cZ (q7.1, q7.2, q4.2)) (wr := ((wX2o a2 cI cZ q4.2) : va_W)) [0, 1, 2, 3, 4, 5, 6, 7] [8, 9, 10, 11, 12, 13, 14, 15, 16, 17, 18] [11, 12, 13, 14, 15, 16, 17, 18, 0, 1, 2, 3, 4, 5, 6, 7, 8, 9, 10] (va_runV (As := [.int q6.1, .int q4.1]) (rest := []) ⟨hx, hb, hml, hown, hts⟩ (c_X1_add l D cI cZ a1 a3 N q6.2.1 q6.2.2 q6.1 q4.1 q7 hq7 H.size) (cwV 2 hts gX1_addRetyped_X1_add rfl rfl rfl (by decide +kernel) ⟨Nat.le_of_ble_eq_true rfl, Nat.le_of_ble_eq_true rfl⟩) (pV [0, 1, 2, 3, 4, 5, 6, 7] hP hD hK hN rfl rfl rfl rfl) rfl rfl hl.1 rfl (lv_room (Nat.le_of_ble_eq_true rfl)) dX1_addRetyped_42 ⟨Nat.le_of_ble_eq_true rfl, Nat.le_of_ble_eq_true rfl⟩) hP hD hS hA rfl rfl rfl (by decide) rfl rfl (fun H locs hP hD hS => ?_)
        refine lv_iinc (v := (x3 + 1)) (lv' := [(3, .int (x3 + 1)), (4, .int q4.1), (0, .ref (a1 0)), (1, .int x1), (2, .ref (a2 0))]) hx hb dX1_addRetyped_45 hl (k := 4) rfl rfl (by decide) rfl (fun ls hl => ?_)
        refine lv_goto (tgt := 6) hx hb dX1_addRetyped_48 (by decide) ?_
        exact ih q7.1 q7.2 q4.2 x1 (x3 + 1) _ _ _ hP hD hS (lv_sub hl [2, 3, 4, 0] rfl) h
      · rw [if_pos hc5] at h
        refine lv_iconst (v := 0) hx hb dX1_addRetyped_32 rfl ?_
        obtain ⟨rfl, rfl⟩ := so h
        exact ret_z C0 (Or.inl rfl) hP hD hS dX1_addRetyped_33
set_option maxHeartbeats 4000000 in
set_option maxRecDepth 100000 in
theorem c_X1_addRetyped (l : Launch) (D : va_G) (cI cZ : ClassId) (a1 a3 a2 : Nat → Nat) (N : Nat) (t k y : St) (x1 : Int32) : MI l yX1_addRetyped wsX1_addRetyped ({ frames := 128, cells := 0, slots := 0, locals := 5043 } : Room) D cI cZ (wX1y a1 a3 a2 cI cZ) [.ref (a1 0), .int x1, .ref (a2 0)] (t, k, y) (f_X1_addRetyped N t k y x1) := by
  refine MI.of (cc := cX1_addRetyped) (maxL := 5) (ret := (some .boolean)) (own := RX1) (by decide) rfl rfl (Nat.le_of_ble_eq_true rfl) ?_
  intro r u1 h p e s m args below meth c A C0 H locs ls hP hD hS hl
  obtain ⟨hx, hb, hml, hr, hown, hts, hlocks, hA, hK, hN⟩ := id C0
  have hl : lv_has ls 5 [(0, .ref (a1 0)), (1, .int x1), (2, .ref (a2 0))] := hl
  unfold f_X1_addRetyped at h
  refine lv_aload_n hx hb dX1_addRetyped_0 rfl (lv_at hl 0 rfl) ?_
  refine lv_iload_n hx hb dX1_addRetyped_1 rfl (lv_at hl 1 rfl) ?_
  obtain ⟨q1, hq1, h⟩ := ob h
  refine mc_i (ws' := wX1y a1 a3 a2 cI cZ (q1.2.1, q1.2.2, y)) (wr := ((wX2o a2 cI cZ y) : va_W)) [0, 1, 2, 3, 4, 5, 6, 7] [8, 9, 10, 11, 12, 13, 14, 15, 16, 17, 18] [11, 12, 13, 14, 15, 16, 17, 18, 0, 1, 2, 3, 4, 5, 6, 7, 8, 9, 10] (va_runV (As := [.int x1]) (rest := []) ⟨hx, hb, hml, hown, hts⟩ (c_X1_start l D cI cZ a1 a3 N t k x1 q1.1 q1.2 hq1 H.size) (cwV 1 hts gX1_addRetyped_X1_start rfl rfl rfl (by decide +kernel) ⟨Nat.le_of_ble_eq_true rfl, Nat.le_of_ble_eq_true rfl⟩) (pV [0, 1, 2, 3, 4, 5, 6, 7] hP hD hK hN rfl rfl rfl rfl) rfl rfl hl.1 rfl (lv_room (Nat.le_of_ble_eq_true rfl)) dX1_addRetyped_2 ⟨Nat.le_of_ble_eq_true rfl, Nat.le_of_ble_eq_true rfl⟩) hP hD hS hA rfl rfl rfl (by decide) rfl rfl (fun H locs hP hD hS => ?_)
  refine lv_istore_n (lv' := [(3, .int q1.1), (0, .ref (a1 0)), (1, .int x1), (2, .ref (a2 0))]) hx hb dX1_addRetyped_5 rfl hl (by decide) rfl (fun ls hl => ?_)
  exact k_X1_addRetyped_6 C0 N N q1.2.1 q1.2.2 y x1 q1.1 _ _ _ hP hD hS (lv_sub hl [1, 2, 3, 0] rfl) h

def f_X1_holds_6 (N : Nat) : Nat → St → St → Int32 → Int32 → Int32 → Option (Int32 × (St × St))
  | 0, _, _, _, _, _ => none
  | n + 1, t, k, x1, x2, x3 => (f_X1_end N t k x1).bind (fun q1 => if q1.1 ≤ x3 then some (0, (q1.2.1, q1.2.2)) else (f_X1_isVariable N q1.2.1 q1.2.2 x3 x2).bind (fun q3 => if q3.1 = 0 then f_X1_holds_6 N n q3.2.1 q3.2.2 x1 x2 (x3 + 1) else some (1, (q3.2.1, q3.2.2))))
def f_X1_holds (N : Nat) (t k : St) (x1 x2 : Int32) : Option (Int32 × (St × St)) := (f_X1_start N t k x1).bind (fun q1 => f_X1_holds_6 N N q1.2.1 q1.2.2 x1 x2 q1.1)
abbrev KP_X1_holds_6 (p : Program) (l : Launch) (e : Env) (s : State) (m : MethodId) (args : Array Value) (below : List Frame) (meth : Method) (c : Code) (D : va_G) (cI cZ : ClassId) (a1 a3 : Nat → Nat) (A : Nat → Prop) (r : Int32) (u1 : St × St) (K : St → St → Int32 → Int32 → Int32 → Option (Int32 × (St × St))) : Prop := ∀ (t k : St) (x1 x2 x3 : Int32) (H : Heap) (locs : List Loc) (ls : Array Slot), va_P D vwCl (wX1 a1 a3 cI cZ (t, k)) H → va_D A (wX1 a1 a3 cI cZ (t, k)) → va_S A s.heap H locs → lv_has ls 4 [(0, .ref (a1 0)), (1, .int x1), (2, .int x2), (3, .int x3)] → K t k x1 x2 x3 = some (r, u1) → W p l e ({ frames := 4, cells := 0, slots := 0, locals := 85 } : Room) s m args below meth c H locs 0 0 (QI below args s D cI cZ (wX1 a1 a3 cI cZ) A r u1) (F0 m 6 ls [])
set_option maxHeartbeats 4000000 in
set_option maxRecDepth 100000 in
theorem k_X1_holds_6 {p : Program} {l : Launch} {e : Env} {s : State} {m : MethodId} {args : Array Value} {below : List Frame} {meth : Method} {c : Code} {D : va_G} {cI cZ : ClassId} {a1 a3 : Nat → Nat} {A : Nat → Prop} {r : Int32} {u1 : St × St} (C0 : mB p s m args meth c D cI cZ A cX1_holds 4 (some .boolean) wsX1_holds RX1) (N : Nat) : ∀ n : Nat, KP_X1_holds_6 p l e s m args below meth c D cI cZ a1 a3 A r u1 (f_X1_holds_6 N n) := by
  obtain ⟨hx, hb, hml, hr, hown, hts, hlocks, hA, hK, hN⟩ := id C0
  intro n
  induction n with
  | zero =>
    intro t k x1 x2 x3 H locs ls hP hD hS hl h
    exact no (show (none : Option (Int32 × (St × St))) = _ from h)
  | succ n ih =>
    intro t k x1 x2 x3 H locs ls hP hD hS hl h
    rw [f_X1_holds_6] at h
    refine lv_iload_n hx hb dX1_holds_6 rfl (lv_at hl 3 rfl) ?_
    refine lv_aload_n hx hb dX1_holds_7 rfl (lv_at hl 0 rfl) ?_
    refine lv_iload_n hx hb dX1_holds_8 rfl (lv_at hl 1 rfl) ?_
    obtain ⟨q1, hq1, h⟩ := ob h
    refine mc_i (ws' := wX1 a1 a3 cI cZ (q1.2.1, q1.2.2)) (wr := ([] : va_W)) [0, 1, 2, 3, 4, 5, 6, 7] [] [0, 1, 2, 3, 4, 5, 6, 7] (va_runV (As := [.int x1]) (rest := [.int x3]) ⟨hx, hb, hml, hown, hts⟩ (c_X1_end l D cI cZ a1 a3 N t k x1 q1.1 q1.2 hq1 H.size) (cwV 1 hts gX1_holds_X1_end rfl rfl rfl (by decide +kernel) ⟨Nat.le_of_ble_eq_true rfl, Nat.le_of_ble_eq_true rfl⟩) (pV [0, 1, 2, 3, 4, 5, 6, 7] hP hD hK hN rfl rfl rfl rfl) rfl rfl hl.1 rfl (lv_room (Nat.le_of_ble_eq_true rfl)) dX1_holds_9 ⟨Nat.le_of_ble_eq_true rfl, Nat.le_of_ble_eq_true rfl⟩) hP hD hS hA rfl rfl rfl (by decide) rfl rfl (fun H locs hP hD hS => ?_)
    refine lv_icmp_ge (tgt := 32) hx hb dX1_holds_12 (by decide) (fun hc2 => ?_) (fun hc2 => ?_)
    · rw [if_pos hc2] at h
      refine lv_iconst (v := 0) hx hb dX1_holds_32 rfl ?_
      obtain ⟨rfl, rfl⟩ := so h
      exact ret_z C0 (Or.inl rfl) hP hD hS dX1_holds_33
    · rw [if_neg hc2] at h
      refine lv_aload_n hx hb dX1_holds_15 rfl (lv_at hl 0 rfl) ?_
      refine lv_iload_n hx hb dX1_holds_16 rfl (lv_at hl 3 rfl) ?_
      refine lv_iload_n hx hb dX1_holds_17 rfl (lv_at hl 2 rfl) ?_
      obtain ⟨q3, hq3, h⟩ := ob h
      refine mc_i (ws' := wX1 a1 a3 cI cZ (q3.2.1, q3.2.2)) (wr := ([] : va_W)) [0, 1, 2, 3, 4, 5, 6, 7] [] [0, 1, 2, 3, 4, 5, 6, 7] (va_runV (As := [.int x3, .int x2]) (rest := []) ⟨hx, hb, hml, hown, hts⟩ (c_X1_isVariable l D cI cZ a1 a3 N q1.2.1 q1.2.2 x3 x2 q3.1 q3.2 hq3 H.size) (cwV 2 hts gX1_holds_X1_isVariable rfl rfl rfl (by decide +kernel) ⟨Nat.le_of_ble_eq_true rfl, Nat.le_of_ble_eq_true rfl⟩) (pV [0, 1, 2, 3, 4, 5, 6, 7] hP hD hK hN rfl rfl rfl rfl) rfl rfl hl.1 rfl (lv_room (Nat.le_of_ble_eq_true rfl)) dX1_holds_18 ⟨Nat.le_of_ble_eq_true rfl, Nat.le_of_ble_eq_true rfl⟩) hP hD hS hA rfl rfl rfl (by decide) rfl rfl (fun H locs hP hD hS => ?_)
      refine lv_if_eq (tgt := 26) hx hb dX1_holds_21 (by decide) (fun hc4 => ?_) (fun hc4 => ?_)
      · rw [if_pos hc4] at h
        refine lv_iinc (v := (x3 + 1)) (lv' := [(3, .int (x3 + 1)), (0, .ref (a1 0)), (1, .int x1), (2, .int x2)]) hx hb dX1_holds_26 hl (k := 3) rfl rfl (by decide) rfl (fun ls hl => ?_)
        refine lv_goto (tgt := 6) hx hb dX1_holds_29 (by decide) ?_
        exact ih q3.2.1 q3.2.2 x1 x2 (x3 + 1) _ _ _ hP hD hS (lv_sub hl [1, 2, 3, 0] rfl) h
      · rw [if_neg hc4] at h
        refine lv_iconst (v := 1) hx hb dX1_holds_24 rfl ?_
        obtain ⟨rfl, rfl⟩ := so h
        exact ret_z C0 (Or.inr rfl) hP hD hS dX1_holds_25
set_option maxHeartbeats 4000000 in
set_option maxRecDepth 100000 in
theorem c_X1_holds (l : Launch) (D : va_G) (cI cZ : ClassId) (a1 a3 : Nat → Nat) (N : Nat) (t k : St) (x1 x2 : Int32) : MI l yX1_holds wsX1_holds ({ frames := 4, cells := 0, slots := 0, locals := 85 } : Room) D cI cZ (wX1 a1 a3 cI cZ) [.ref (a1 0), .int x1, .int x2] (t, k) (f_X1_holds N t k x1 x2) := by
  refine MI.of (cc := cX1_holds) (maxL := 4) (ret := (some .boolean)) (own := RX1) (by decide) rfl rfl (Nat.le_of_ble_eq_true rfl) ?_
  intro r u1 h p e s m args below meth c A C0 H locs ls hP hD hS hl
  obtain ⟨hx, hb, hml, hr, hown, hts, hlocks, hA, hK, hN⟩ := id C0
  have hl : lv_has ls 4 [(0, .ref (a1 0)), (1, .int x1), (2, .int x2)] := hl
  unfold f_X1_holds at h
  refine lv_aload_n hx hb dX1_holds_0 rfl (lv_at hl 0 rfl) ?_
  refine lv_iload_n hx hb dX1_holds_1 rfl (lv_at hl 1 rfl) ?_
  obtain ⟨q1, hq1, h⟩ := ob h
  refine mc_i (ws' := wX1 a1 a3 cI cZ (q1.2.1, q1.2.2)) (wr := ([] : va_W)) [0, 1, 2, 3, 4, 5, 6, 7] [] [0, 1, 2, 3, 4, 5, 6, 7] (va_runV (As := [.int x1]) (rest := []) ⟨hx, hb, hml, hown, hts⟩ (c_X1_start l D cI cZ a1 a3 N t k x1 q1.1 q1.2 hq1 H.size) (cwV 1 hts gX1_holds_X1_start rfl rfl rfl (by decide +kernel) ⟨Nat.le_of_ble_eq_true rfl, Nat.le_of_ble_eq_true rfl⟩) (pV [0, 1, 2, 3, 4, 5, 6, 7] hP hD hK hN rfl rfl rfl rfl) rfl rfl hl.1 rfl (lv_room (Nat.le_of_ble_eq_true rfl)) dX1_holds_2 ⟨Nat.le_of_ble_eq_true rfl, Nat.le_of_ble_eq_true rfl⟩) hP hD hS hA rfl rfl rfl (by decide) rfl rfl (fun H locs hP hD hS => ?_)
  refine lv_istore_n (lv' := [(3, .int q1.1), (0, .ref (a1 0)), (1, .int x1), (2, .int x2)]) hx hb dX1_holds_5 rfl hl (by decide) rfl (fun ls hl => ?_)
  exact k_X1_holds_6 C0 N N q1.2.1 q1.2.2 x1 x2 q1.1 _ _ _ hP hD hS (lv_sub hl [1, 2, 3, 0] rfl) h

def f_X1_alike_61 (N : Nat) (t k : St) : Option (Int32 × (St × St)) := some (0, (t, k))
def f_X1_alike_15 (N : Nat) : Nat → St → St → Int32 → Int32 → Int32 → Int32 → Option (Int32 × (St × St))
  | 0, _, _, _, _, _, _ => none
  | n + 1, t, k, x1, x2, x3, x5 => if (x2 - x1) ≤ x5 then some (1, (t, k)) else (f_X1_code N t k (x1 + x5)).bind (fun q2 => (f_X1_code N q2.2.1 q2.2.2 (x3 + x5)).bind (fun q3 => if q2.1 = q3.1 then (f_X1_symbolType N q3.2.1 q3.2.2 (x1 + x5)).bind (fun q5 => (f_X1_symbolType N q5.2.1 q5.2.2 (x3 + x5)).bind (fun q6 => if q5.1 = q6.1 then f_X1_alike_15 N n q6.2.1 q6.2.2 x1 x2 x3 (x5 + 1) else f_X1_alike_61 N q6.2.1 q6.2.2)) else f_X1_alike_61 N q3.2.1 q3.2.2))
def f_X1_alike (N : Nat) (t k : St) (x1 x2 x3 x4 : Int32) : Option (Int32 × (St × St)) := if (x2 - x1) = (x4 - x3) then f_X1_alike_15 N N t k x1 x2 x3 0 else some (0, (t, k))
abbrev KP_X1_alike_61 (p : Program) (l : Launch) (e : Env) (s : State) (m : MethodId) (args : Array Value) (below : List Frame) (meth : Method) (c : Code) (D : va_G) (cI cZ : ClassId) (a1 a3 : Nat → Nat) (A : Nat → Prop) (r : Int32) (u1 : St × St) (K : St → St → Option (Int32 × (St × St))) : Prop := ∀ (t k : St) (H : Heap) (locs : List Loc) (ls : Array Slot), va_P D vwCl (wX1 a1 a3 cI cZ (t, k)) H → va_D A (wX1 a1 a3 cI cZ (t, k)) → va_S A s.heap H locs → lv_has ls 6 [] → K t k = some (r, u1) → W p l e ({ frames := 2, cells := 0, slots := 0, locals := 42 } : Room) s m args below meth c H locs 0 0 (QI below args s D cI cZ (wX1 a1 a3 cI cZ) A r u1) (F0 m 61 ls [])
abbrev KP_X1_alike_15 (p : Program) (l : Launch) (e : Env) (s : State) (m : MethodId) (args : Array Value) (below : List Frame) (meth : Method) (c : Code) (D : va_G) (cI cZ : ClassId) (a1 a3 : Nat → Nat) (A : Nat → Prop) (r : Int32) (u1 : St × St) (K : St → St → Int32 → Int32 → Int32 → Int32 → Option (Int32 × (St × St))) : Prop := ∀ (t k : St) (x1 x2 x3 x5 : Int32) (H : Heap) (locs : List Loc) (ls : Array Slot), va_P D vwCl (wX1 a1 a3 cI cZ (t, k)) H → va_D A (wX1 a1 a3 cI cZ (t, k)) → va_S A s.heap H locs → lv_has ls 6 [(0, .ref (a1 0)), (1, .int x1), (2, .int x2), (3, .int x3), (5, .int x5)] → K t k x1 x2 x3 x5 = some (r, u1) → W p l e ({ frames := 2, cells := 0, slots := 0, locals := 42 } : Room) s m args below meth c H locs 0 0 (QI below args s D cI cZ (wX1 a1 a3 cI cZ) A r u1) (F0 m 15 ls [])
set_option maxHeartbeats 4000000 in
set_option maxRecDepth 100000 in
theorem k_X1_alike_61 {p : Program} {l : Launch} {e : Env} {s : State} {m : MethodId} {args : Array Value} {below : List Frame} {meth : Method} {c : Code} {D : va_G} {cI cZ : ClassId} {a1 a3 : Nat → Nat} {A : Nat → Prop} {r : Int32} {u1 : St × St} (C0 : mB p s m args meth c D cI cZ A cX1_alike 6 (some .boolean) wsX1_alike RX1) (N : Nat) : KP_X1_alike_61 p l e s m args below meth c D cI cZ a1 a3 A r u1 (f_X1_alike_61 N) := by
  obtain ⟨hx, hb, hml, hr, hown, hts, hlocks, hA, hK, hN⟩ := id C0
  intro t k H locs ls hP hD hS hl h
  unfold f_X1_alike_61 at h
  refine lv_iconst (v := 0) hx hb dX1_alike_61 rfl ?_
  obtain ⟨rfl, rfl⟩ := so h
  exact ret_z C0 (Or.inl rfl) hP hD hS dX1_alike_62
set_option maxHeartbeats 4000000 in
set_option maxRecDepth 100000 in
theorem k_X1_alike_15 {p : Program} {l : Launch} {e : Env} {s : State} {m : MethodId} {args : Array Value} {below : List Frame} {meth : Method} {c : Code} {D : va_G} {cI cZ : ClassId} {a1 a3 : Nat → Nat} {A : Nat → Prop} {r : Int32} {u1 : St × St} (C0 : mB p s m args meth c D cI cZ A cX1_alike 6 (some .boolean) wsX1_alike RX1) (N : Nat) : ∀ n : Nat, KP_X1_alike_15 p l e s m args below meth c D cI cZ a1 a3 A r u1 (f_X1_alike_15 N n) := by
  obtain ⟨hx, hb, hml, hr, hown, hts, hlocks, hA, hK, hN⟩ := id C0
  intro n
  induction n with
  | zero =>
    intro t k x1 x2 x3 x5 H locs ls hP hD hS hl h
    exact no (show (none : Option (Int32 × (St × St))) = _ from h)
  | succ n ih =>
    intro t k x1 x2 x3 x5 H locs ls hP hD hS hl h
    rw [f_X1_alike_15] at h
    refine lv_iload hx hb dX1_alike_15 (lv_at hl 4 rfl) ?_
    refine lv_iload_n hx hb dX1_alike_17 rfl (lv_at hl 2 rfl) ?_
    refine lv_iload_n hx hb dX1_alike_18 rfl (lv_at hl 1 rfl) ?_
    refine lv_isub hx hb dX1_alike_19 ?_
    refine lv_icmp_ge (tgt := 69) hx hb dX1_alike_20 (by decide) (fun hc1 => ?_) (fun hc1 => ?_)
    · rw [if_pos hc1] at h
      refine lv_iconst (v := 1) hx hb dX1_alike_69 rfl ?_
      obtain ⟨rfl, rfl⟩ := so h
      exact ret_z C0 (Or.inr rfl) hP hD hS dX1_alike_70
    · rw [if_neg hc1] at h
      refine lv_aload_n hx hb dX1_alike_23 rfl (lv_at hl 0 rfl) ?_
      refine lv_iload_n hx hb dX1_alike_24 rfl (lv_at hl 1 rfl) ?_
      refine lv_iload hx hb dX1_alike_25 (lv_at hl 4 rfl) ?_
      refine lv_iadd hx hb dX1_alike_27 ?_
      obtain ⟨q2, hq2, h⟩ := ob h
      refine mc_i (ws' := wX1 a1 a3 cI cZ (q2.2.1, q2.2.2)) (wr := ([] : va_W)) [0, 1, 2, 3, 4, 5, 6, 7] [] [0, 1, 2, 3, 4, 5, 6, 7] (va_runV (As := [.int (x1 + x5)]) (rest := []) ⟨hx, hb, hml, hown, hts⟩ (c_X1_code l D cI cZ a1 a3 N t k (x1 + x5) q2.1 q2.2 hq2 H.size) (cwV 1 hts gX1_alike_X1_code rfl rfl rfl (by decide +kernel) ⟨Nat.le_of_ble_eq_true rfl, Nat.le_of_ble_eq_true rfl⟩) (pV [0, 1, 2, 3, 4, 5, 6, 7] hP hD hK hN rfl rfl rfl rfl) rfl rfl hl.1 rfl (lv_room (Nat.le_of_ble_eq_true rfl)) dX1_alike_28 ⟨Nat.le_of_ble_eq_true rfl, Nat.le_of_ble_eq_true rfl⟩) hP hD hS hA rfl rfl rfl (by decide) rfl rfl (fun H locs hP hD hS => ?_)
      refine lv_aload_n hx hb dX1_alike_31 rfl (lv_at hl 0 rfl) ?_
      refine lv_iload_n hx hb dX1_alike_32 rfl (lv_at hl 3 rfl) ?_
      refine lv_iload hx hb dX1_alike_33 (lv_at hl 4 rfl) ?_
      refine lv_iadd hx hb dX1_alike_35 ?_
      obtain ⟨q3, hq3, h⟩ := ob h
      refine mc_i (ws' := wX1 a1 a3 cI cZ (q3.2.1, q3.2.2)) (wr := ([] : va_W)) [0, 1, 2, 3, 4, 5, 6, 7] [] [0, 1, 2, 3, 4, 5, 6, 7] (va_runV (As := [.int (x3 + x5)]) (rest := [.int q2.1]) ⟨hx, hb, hml, hown, hts⟩ (c_X1_code l D cI cZ a1 a3 N q2.2.1 q2.2.2 (x3 + x5) q3.1 q3.2 hq3 H.size) (cwV 1 hts gX1_alike_X1_code rfl rfl rfl (by decide +kernel) ⟨Nat.le_of_ble_eq_true rfl, Nat.le_of_ble_eq_true rfl⟩) (pV [0, 1, 2, 3, 4, 5, 6, 7] hP hD hK hN rfl rfl rfl rfl) rfl rfl hl.1 rfl (lv_room (Nat.le_of_ble_eq_true rfl)) dX1_alike_36 ⟨Nat.le_of_ble_eq_true rfl, Nat.le_of_ble_eq_true rfl⟩) hP hD hS hA rfl rfl rfl (by decide) rfl rfl (fun H locs hP hD hS => ?_)
      refine lv_icmp_ne (tgt := 61) hx hb dX1_alike_39 (by decide) (fun hc4 => ?_) (fun hc4 => ?_)
      · rw [if_neg hc4] at h
        exact k_X1_alike_61 C0 N q3.2.1 q3.2.2 _ _ _ hP hD hS (lv_sub hl [] rfl) h
      · rw [if_pos hc4] at h
        refine lv_aload_n hx hb dX1_alike_42 rfl (lv_at hl 0 rfl) ?_
        refine lv_iload_n hx hb dX1_alike_43 rfl (lv_at hl 1 rfl) ?_
        refine lv_iload hx hb dX1_alike_44 (lv_at hl 4 rfl) ?_
        refine lv_iadd hx hb dX1_alike_46 ?_
        obtain ⟨q5, hq5, h⟩ := ob h
        refine mc_i (ws' := wX1 a1 a3 cI cZ (q5.2.1, q5.2.2)) (wr := ([] : va_W)) [0, 1, 2, 3, 4, 5, 6, 7] [] [0, 1, 2, 3, 4, 5, 6, 7] (va_runV (As := [.int (x1 + x5)]) (rest := []) ⟨hx, hb, hml, hown, hts⟩ (c_X1_symbolType l D cI cZ a1 a3 N q3.2.1 q3.2.2 (x1 + x5) q5.1 q5.2 hq5 H.size) (cwV 1 hts gX1_alike_X1_symbolType rfl rfl rfl (by decide +kernel) ⟨Nat.le_of_ble_eq_true rfl, Nat.le_of_ble_eq_true rfl⟩) (pV [0, 1, 2, 3, 4, 5, 6, 7] hP hD hK hN rfl rfl rfl rfl) rfl rfl hl.1 rfl (lv_room (Nat.le_of_ble_eq_true rfl)) dX1_alike_47 ⟨Nat.le_of_ble_eq_true rfl, Nat.le_of_ble_eq_true rfl⟩) hP hD hS hA rfl rfl rfl (by decide) rfl rfl (fun H locs hP hD hS => ?_)
        refine lv_aload_n hx hb dX1_alike_50 rfl (lv_at hl 0 rfl) ?_
        refine lv_iload_n hx hb dX1_alike_51 rfl (lv_at hl 3 rfl) ?_
        refine lv_iload hx hb dX1_alike_52 (lv_at hl 4 rfl) ?_
        refine lv_iadd hx hb dX1_alike_54 ?_
        obtain ⟨q6, hq6, h⟩ := ob h
        refine mc_i (ws' := wX1 a1 a3 cI cZ (q6.2.1, q6.2.2)) (wr := ([] : va_W)) [0, 1, 2, 3, 4, 5, 6, 7] [] [0, 1, 2, 3, 4, 5, 6, 7] (va_runV (As := [.int (x3 + x5)]) (rest := [.int q5.1]) ⟨hx, hb, hml, hown, hts⟩ (c_X1_symbolType l D cI cZ a1 a3 N q5.2.1 q5.2.2 (x3 + x5) q6.1 q6.2 hq6 H.size) (cwV 1 hts gX1_alike_X1_symbolType rfl rfl rfl (by decide +kernel) ⟨Nat.le_of_ble_eq_true rfl, Nat.le_of_ble_eq_true rfl⟩) (pV [0, 1, 2, 3, 4, 5, 6, 7] hP hD hK hN rfl rfl rfl rfl) rfl rfl hl.1 rfl (lv_room (Nat.le_of_ble_eq_true rfl)) dX1_alike_55 ⟨Nat.le_of_ble_eq_true rfl, Nat.le_of_ble_eq_true rfl⟩) hP hD hS hA rfl rfl rfl (by decide) rfl rfl (fun H locs hP hD hS => ?_)
        refine lv_icmp_eq (tgt := 63) hx hb dX1_alike_58 (by decide) (fun hc7 => ?_) (fun hc7 => ?_)
        · rw [if_pos hc7] at h
          refine lv_iinc (v := (x5 + 1)) (lv' := [(5, .int (x5 + 1)), (0, .ref (a1 0)), (1, .int x1), (2, .int x2), (3, .int x3)]) hx hb dX1_alike_63 hl (k := 4) rfl rfl (by decide) rfl (fun ls hl => ?_)
          refine lv_goto (tgt := 15) hx hb dX1_alike_66 (by decide) ?_
          exact ih q6.2.1 q6.2.2 x1 x2 x3 (x5 + 1) _ _ _ hP hD hS (lv_sub hl [1, 2, 3, 4, 0] rfl) h
        · rw [if_neg hc7] at h
          exact k_X1_alike_61 C0 N q6.2.1 q6.2.2 _ _ _ hP hD hS (lv_sub hl [] rfl) h
set_option maxHeartbeats 4000000 in
set_option maxRecDepth 100000 in
theorem c_X1_alike (l : Launch) (D : va_G) (cI cZ : ClassId) (a1 a3 : Nat → Nat) (N : Nat) (t k : St) (x1 x2 x3 x4 : Int32) : MI l yX1_alike wsX1_alike ({ frames := 2, cells := 0, slots := 0, locals := 42 } : Room) D cI cZ (wX1 a1 a3 cI cZ) [.ref (a1 0), .int x1, .int x2, .int x3, .int x4] (t, k) (f_X1_alike N t k x1 x2 x3 x4) := by
  refine MI.of (cc := cX1_alike) (maxL := 6) (ret := (some .boolean)) (own := RX1) (by decide) rfl rfl (Nat.le_of_ble_eq_true rfl) ?_
  intro r u1 h p e s m args below meth c A C0 H locs ls hP hD hS hl
  obtain ⟨hx, hb, hml, hr, hown, hts, hlocks, hA, hK, hN⟩ := id C0
  have hl : lv_has ls 6 [(0, .ref (a1 0)), (1, .int x1), (2, .int x2), (3, .int x3), (4, .int x4)] := hl
  unfold f_X1_alike at h
  refine lv_iload_n hx hb dX1_alike_0 rfl (lv_at hl 2 rfl) ?_
  refine lv_iload_n hx hb dX1_alike_1 rfl (lv_at hl 1 rfl) ?_
  refine lv_isub hx hb dX1_alike_2 ?_
  refine lv_iload hx hb dX1_alike_3 (lv_at hl 4 rfl) ?_
  refine lv_iload_n hx hb dX1_alike_5 rfl (lv_at hl 3 rfl) ?_
  refine lv_isub hx hb dX1_alike_6 ?_
  refine lv_icmp_eq (tgt := 12) hx hb dX1_alike_7 (by decide) (fun hc1 => ?_) (fun hc1 => ?_)
  · rw [if_pos hc1] at h
    refine lv_iconst (v := 0) hx hb dX1_alike_12 rfl ?_
    refine lv_istore (lv' := [(5, .int 0), (0, .ref (a1 0)), (1, .int x1), (2, .int x2), (3, .int x3), (4, .int x4)]) hx hb dX1_alike_13 hl (by decide) rfl (fun ls hl => ?_)
    exact k_X1_alike_15 C0 N N t k x1 x2 x3 0 _ _ _ hP hD hS (lv_sub hl [1, 2, 3, 4, 0] rfl) h
  · rw [if_neg hc1] at h
    refine lv_iconst (v := 0) hx hb dX1_alike_10 rfl ?_
    obtain ⟨rfl, rfl⟩ := so h
    exact ret_z C0 (Or.inl rfl) hP hD hS dX1_alike_11

theorem in_X1_endOfClosed_X1 : ∀ w ∈ u_ws RX1 TX1 8, w ∈ wsX1_endOfClosed := by decide +kernel
def f_X1_endOfClosed_51 (N : Nat) (k9 : St → St → Int32 → Option (Int32 × (St × St))) (t k : St) (x2 x3 : Int32) : Option (Int32 × (St × St)) := (f_X3_pass N k x3).bind (fun q1 => (f_X3_over N q1).bind (fun q2 => if q2.1 = 0 then k9 t q2.2 (x2 + 1) else some ((x2 + 1), (t, q2.2))))
def f_X1_endOfClosed_9 (N : Nat) : Nat → St → St → Int32 → Option (Int32 × (St × St))
  | 0, _, _, _ => none
  | n + 1, t, k, x2 => (f_X1_start N t k (t 5 0)).bind (fun q1 => if q1.1 ≤ x2 then some ((-1), (q1.2.1, q1.2.2)) else (f_X1_code N q1.2.1 q1.2.2 x2).bind (fun q3 => (f_X4_isOf N 0 q3.1).bind (fun q4 => if q4.1 = 0 then f_X1_endOfClosed_51 N (f_X1_endOfClosed_9 N n) q3.2.1 q3.2.2 x2 q3.1 else (f_X4_numberOf N q3.1).bind (fun q6 => (f_X3_around N q3.2.2).bind (fun q7 => if q6.1 < q7.1 then f_X1_endOfClosed_51 N (f_X1_endOfClosed_9 N n) q3.2.1 q7.2 x2 q3.1 else some ((-1), (q3.2.1, q7.2)))))))
def f_X1_endOfClosed (N : Nat) (t k : St) (x1 : Int32) : Option (Int32 × (St × St)) := (f_X3_begin N k).bind (fun q1 => f_X1_endOfClosed_9 N N t q1 x1)
abbrev KP_X1_endOfClosed_51 (p : Program) (l : Launch) (e : Env) (s : State) (m : MethodId) (args : Array Value) (below : List Frame) (meth : Method) (c : Code) (D : va_G) (cI cZ : ClassId) (a1 a3 : Nat → Nat) (A : Nat → Prop) (r : Int32) (u1 : St × St) (K : St → St → Int32 → Int32 → Option (Int32 × (St × St))) : Prop := ∀ (t k : St) (x2 x3 : Int32) (H : Heap) (locs : List Loc) (ls : Array Slot), va_P D vwCl (wX1 a1 a3 cI cZ (t, k)) H → va_D A (wX1 a1 a3 cI cZ (t, k)) → va_S A s.heap H locs → lv_has ls 4 [(0, .ref (a1 0)), (2, .int x2), (3, .int x3)] → K t k x2 x3 = some (r, u1) → W p l e ({ frames := 3, cells := 0, slots := 0, locals := 62 } : Room) s m args below meth c H locs 0 0 (QI below args s D cI cZ (wX1 a1 a3 cI cZ) A r u1) (F0 m 51 ls [])
abbrev KP_X1_endOfClosed_9 (p : Program) (l : Launch) (e : Env) (s : State) (m : MethodId) (args : Array Value) (below : List Frame) (meth : Method) (c : Code) (D : va_G) (cI cZ : ClassId) (a1 a3 : Nat → Nat) (A : Nat → Prop) (r : Int32) (u1 : St × St) (K : St → St → Int32 → Option (Int32 × (St × St))) : Prop := ∀ (t k : St) (x2 : Int32) (H : Heap) (locs : List Loc) (ls : Array Slot), va_P D vwCl (wX1 a1 a3 cI cZ (t, k)) H → va_D A (wX1 a1 a3 cI cZ (t, k)) → va_S A s.heap H locs → lv_has ls 4 [(0, .ref (a1 0)), (2, .int x2)] → K t k x2 = some (r, u1) → W p l e ({ frames := 3, cells := 0, slots := 0, locals := 62 } : Room) s m args below meth c H locs 0 0 (QI below args s D cI cZ (wX1 a1 a3 cI cZ) A r u1) (F0 m 9 ls [])
set_option maxHeartbeats 4000000 in
set_option maxRecDepth 100000 in
theorem k_X1_endOfClosed_51 {p : Program} {l : Launch} {e : Env} {s : State} {m : MethodId} {args : Array Value} {below : List Frame} {meth : Method} {c : Code} {D : va_G} {cI cZ : ClassId} {a1 a3 : Nat → Nat} {A : Nat → Prop} {r : Int32} {u1 : St × St} (C0 : mB p s m args meth c D cI cZ A cX1_endOfClosed 4 (some .int) wsX1_endOfClosed RX1) (N : Nat) (k9 : St → St → Int32 → Option (Int32 × (St × St))) (hk9 : KP_X1_endOfClosed_9 p l e s m args below meth c D cI cZ a1 a3 A r u1 k9) : KP_X1_endOfClosed_51 p l e s m args below meth c D cI cZ a1 a3 A r u1 (f_X1_endOfClosed_51 N k9) := by
  obtain ⟨hx, hb, hml, hr, hown, hts, hlocks, hA, hK, hN⟩ := id C0
  intro t k x2 x3 H locs ls hP hD hS hl h
  unfold f_X1_endOfClosed_51 at h
  refine lv_aload_n hx hb dX1_endOfClosed_51 rfl (lv_at hl 0 rfl) ?_
  refine va_get (D := D) (ci := 1) (v := .ref (a3 0)) (C := RX1) (T := TX1) (N := 8) hx hb hts in_X1_endOfClosed_X1 hown hK hP 0 rfl rfl 4 (by decide) (hts (.fieldLink RX1 27 "TermLoom$TermStore" "walk" "LTermLoom$Walk;") (by decide +kernel)) (fun _ h9 => h9) rfl dX1_endOfClosed_52 ?_
  refine lv_iload_n hx hb dX1_endOfClosed_55 rfl (lv_at hl 2 rfl) ?_
  obtain ⟨q1, hq1, h⟩ := ob h
  refine mc_v (ws' := wX1 a1 a3 cI cZ (t, q1)) (wr := ((wX1o a1 a3 cI cZ t) : va_W)) [5, 6, 7] [0, 1, 2, 3, 4] [0, 1, 2, 3, 4, 5, 6, 7] (va_runV (As := [.int x3]) (rest := []) ⟨hx, hb, hml, hown, hts⟩ (c_X3_pass l D cI cZ a3 N k x3 q1 hq1 H.size) (cwV 1 hts gX1_endOfClosed_X3_pass rfl rfl rfl (by decide +kernel) ⟨Nat.le_of_ble_eq_true rfl, Nat.le_of_ble_eq_true rfl⟩) (pV [5, 6, 7] hP hD hK hN rfl rfl rfl rfl) rfl rfl hl.1 rfl (lv_room (Nat.le_of_ble_eq_true rfl)) dX1_endOfClosed_56 ⟨Nat.le_of_ble_eq_true rfl, Nat.le_of_ble_eq_true rfl⟩) hP hD hS hA rfl rfl rfl (by decide) rfl rfl (fun H locs hP hD hS => ?_)
  refine lv_aload_n hx hb dX1_endOfClosed_59 rfl (lv_at hl 0 rfl) ?_
  refine va_get (D := D) (ci := 1) (v := .ref (a3 0)) (C := RX1) (T := TX1) (N := 8) hx hb hts in_X1_endOfClosed_X1 hown hK hP 0 rfl rfl 4 (by decide) (hts (.fieldLink RX1 27 "TermLoom$TermStore" "walk" "LTermLoom$Walk;") (by decide +kernel)) (fun _ h9 => h9) rfl dX1_endOfClosed_60 ?_
  obtain ⟨q2, hq2, h⟩ := ob h
  refine mc_i (ws' := wX1 a1 a3 cI cZ (t, q2.2)) (wr := ((wX1o a1 a3 cI cZ t) : va_W)) [5, 6, 7] [0, 1, 2, 3, 4] [0, 1, 2, 3, 4, 5, 6, 7] (va_runV (As := []) (rest := []) ⟨hx, hb, hml, hown, hts⟩ (c_X3_over l D cI cZ a3 N q1 q2.1 q2.2 hq2 H.size) (cwV 0 hts gX1_endOfClosed_X3_over rfl rfl rfl (by decide +kernel) ⟨Nat.le_of_ble_eq_true rfl, Nat.le_of_ble_eq_true rfl⟩) (pV [5, 6, 7] hP hD hK hN rfl rfl rfl rfl) rfl rfl hl.1 rfl (lv_room (Nat.le_of_ble_eq_true rfl)) dX1_endOfClosed_63 ⟨Nat.le_of_ble_eq_true rfl, Nat.le_of_ble_eq_true rfl⟩) hP hD hS hA rfl rfl rfl (by decide) rfl rfl (fun H locs hP hD hS => ?_)
  refine lv_if_eq (tgt := 73) hx hb dX1_endOfClosed_66 (by decide) (fun hc3 => ?_) (fun hc3 => ?_)
  · rw [if_pos hc3] at h
    refine lv_iinc (v := (x2 + 1)) (lv' := [(2, .int (x2 + 1)), (0, .ref (a1 0)), (3, .int x3)]) hx hb dX1_endOfClosed_73 hl (k := 1) rfl rfl (by decide) rfl (fun ls hl => ?_)
    refine lv_goto (tgt := 9) hx hb dX1_endOfClosed_76 (by decide) ?_
    exact hk9 t q2.2 (x2 + 1) _ _ _ hP hD hS (lv_sub hl [1, 0] rfl) h
  · rw [if_neg hc3] at h
    refine lv_iload_n hx hb dX1_endOfClosed_69 rfl (lv_at hl 1 rfl) ?_
    refine lv_iconst (v := 1) hx hb dX1_endOfClosed_70 rfl ?_
    refine lv_iadd hx hb dX1_endOfClosed_71 ?_
    obtain ⟨rfl, rfl⟩ := so h
    exact ret_i C0 hP hD hS dX1_endOfClosed_72
set_option maxHeartbeats 4000000 in
set_option maxRecDepth 100000 in
theorem k_X1_endOfClosed_9 {p : Program} {l : Launch} {e : Env} {s : State} {m : MethodId} {args : Array Value} {below : List Frame} {meth : Method} {c : Code} {D : va_G} {cI cZ : ClassId} {a1 a3 : Nat → Nat} {A : Nat → Prop} {r : Int32} {u1 : St × St} (C0 : mB p s m args meth c D cI cZ A cX1_endOfClosed 4 (some .int) wsX1_endOfClosed RX1) (N : Nat) : ∀ n : Nat, KP_X1_endOfClosed_9 p l e s m args below meth c D cI cZ a1 a3 A r u1 (f_X1_endOfClosed_9 N n) := by
  obtain ⟨hx, hb, hml, hr, hown, hts, hlocks, hA, hK, hN⟩ := id C0
  intro n
  induction n with
  | zero =>
    intro t k x2 H locs ls hP hD hS hl h
    exact no (show (none : Option (Int32 × (St × St))) = _ from h)
  | succ n ih =>
    intro t k x2 H locs ls hP hD hS hl h
    rw [f_X1_endOfClosed_9] at h
    refine lv_iload_n hx hb dX1_endOfClosed_9 rfl (lv_at hl 1 rfl) ?_
    refine lv_aload_n hx hb dX1_endOfClosed_10 rfl (lv_at hl 0 rfl) ?_
    refine lv_aload_n hx hb dX1_endOfClosed_11 rfl (lv_at hl 0 rfl) ?_
    refine va_get (D := D) (ci := 1) (v := .int (t 5 0)) (C := RX1) (T := TX1) (N := 8) hx hb hts in_X1_endOfClosed_X1 hown hK hP 0 rfl rfl 5 (by decide) (hts (.fieldLink RX1 31 "TermLoom$TermStore" "count" "I") (by decide +kernel)) (fun _ h9 => h9) rfl dX1_endOfClosed_12 ?_
    obtain ⟨q1, hq1, h⟩ := ob h
    refine mc_i (ws' := wX1 a1 a3 cI cZ (q1.2.1, q1.2.2)) (wr := ([] : va_W)) [0, 1, 2, 3, 4, 5, 6, 7] [] [0, 1, 2, 3, 4, 5, 6, 7] (va_runV (As := [.int (t 5 0)]) (rest := [.int x2]) ⟨hx, hb, hml, hown, hts⟩ (c_X1_start l D cI cZ a1 a3 N t k (t 5 0) q1.1 q1.2 hq1 H.size) (cwV 1 hts gX1_endOfClosed_X1_start rfl rfl rfl (by decide +kernel) ⟨Nat.le_of_ble_eq_true rfl, Nat.le_of_ble_eq_true rfl⟩) (pV [0, 1, 2, 3, 4, 5, 6, 7] hP hD hK hN rfl rfl rfl rfl) rfl rfl hl.1 rfl (lv_room (Nat.le_of_ble_eq_true rfl)) dX1_endOfClosed_15 ⟨Nat.le_of_ble_eq_true rfl, Nat.le_of_ble_eq_true rfl⟩) hP hD hS hA rfl rfl rfl (by decide) rfl rfl (fun H locs hP hD hS => ?_)
    refine lv_icmp_ge (tgt := 79) hx hb dX1_endOfClosed_18 (by decide) (fun hc2 => ?_) (fun hc2 => ?_)
    · rw [if_pos hc2] at h
      refine lv_iconst (v := (-1)) hx hb dX1_endOfClosed_79 rfl ?_
      obtain ⟨rfl, rfl⟩ := so h
      exact ret_i C0 hP hD hS dX1_endOfClosed_80
    · rw [if_neg hc2] at h
      refine lv_aload_n hx hb dX1_endOfClosed_21 rfl (lv_at hl 0 rfl) ?_
      refine lv_iload_n hx hb dX1_endOfClosed_22 rfl (lv_at hl 1 rfl) ?_
      obtain ⟨q3, hq3, h⟩ := ob h
      refine mc_i (ws' := wX1 a1 a3 cI cZ (q3.2.1, q3.2.2)) (wr := ([] : va_W)) [0, 1, 2, 3, 4, 5, 6, 7] [] [0, 1, 2, 3, 4, 5, 6, 7] (va_runV (As := [.int x2]) (rest := []) ⟨hx, hb, hml, hown, hts⟩ (c_X1_code l D cI cZ a1 a3 N q1.2.1 q1.2.2 x2 q3.1 q3.2 hq3 H.size) (cwV 1 hts gX1_endOfClosed_X1_code rfl rfl rfl (by decide +kernel) ⟨Nat.le_of_ble_eq_true rfl, Nat.le_of_ble_eq_true rfl⟩) (pV [0, 1, 2, 3, 4, 5, 6, 7] hP hD hK hN rfl rfl rfl rfl) rfl rfl hl.1 rfl (lv_room (Nat.le_of_ble_eq_true rfl)) dX1_endOfClosed_23 ⟨Nat.le_of_ble_eq_true rfl, Nat.le_of_ble_eq_true rfl⟩) hP hD hS hA rfl rfl rfl (by decide) rfl rfl (fun H locs hP hD hS => ?_)
      refine lv_istore_n (lv' := [(3, .int q3.1), (0, .ref (a1 0)), (2, .int x2)]) hx hb dX1_endOfClosed_26 rfl hl (by decide) rfl (fun ls hl => ?_)
      refine lv_iconst (v := 0) hx hb dX1_endOfClosed_27 rfl ?_
      refine lv_iload_n hx hb dX1_endOfClosed_28 rfl (lv_at hl 0 rfl) ?_
      obtain ⟨q4, hq4, h⟩ := ob h
      refine mc_i (ws' := wX1 a1 a3 cI cZ (q3.2.1, q3.2.2)) (wr := ((wX1o a1 a3 cI cZ q3.2.1) ++ (wX3o a3 cI cZ q3.2.2) : va_W)) [] [0, 1, 2, 3, 4, 5, 6, 7] [0, 1, 2, 3, 4, 5, 6, 7] (va_runSN (As := [.int 0, .int q3.1]) (rest := []) ⟨hx, hb, hml, hown, hts⟩ (c_X4_isOf l D cI cZ N 0 q3.1 q4.1 q4.2 hq4 H.size) ⟨va_cnB 2 hts gX1_endOfClosed_X4_isOf_n121 rfl rfl rfl (nw_X1_121 hN) (hts (.initialized RX4) (by decide +kernel)) (by decide +kernel) ⟨Nat.le_of_ble_eq_true rfl, Nat.le_of_ble_eq_true rfl⟩, hts (.static yX4_isOf) (by decide +kernel), trivial⟩ (pS [] hP hD hK hN rfl rfl) rfl rfl hl.1 rfl (lv_room (Nat.le_of_ble_eq_true rfl)) dX1_endOfClosed_29 ⟨Nat.le_of_ble_eq_true rfl, Nat.le_of_ble_eq_true rfl⟩) hP hD hS hA rfl rfl rfl (by decide) rfl rfl (fun H locs hP hD hS => ?_)
      refine lv_if_eq (tgt := 51) hx hb dX1_endOfClosed_32 (by decide) (fun hc5 => ?_) (fun hc5 => ?_)
      · rw [if_pos hc5] at h
        exact k_X1_endOfClosed_51 C0 N (f_X1_endOfClosed_9 N n) ih q3.2.1 q3.2.2 x2 q3.1 _ _ _ hP hD hS (lv_sub hl [1, 2, 0] rfl) h
      · rw [if_neg hc5] at h
        refine lv_iload_n hx hb dX1_endOfClosed_35 rfl (lv_at hl 0 rfl) ?_
        obtain ⟨q6, hq6, h⟩ := ob h
        refine mc_i (ws' := wX1 a1 a3 cI cZ (q3.2.1, q3.2.2)) (wr := ((wX1o a1 a3 cI cZ q3.2.1) ++ (wX3o a3 cI cZ q3.2.2) : va_W)) [] [0, 1, 2, 3, 4, 5, 6, 7] [0, 1, 2, 3, 4, 5, 6, 7] (va_runSN (As := [.int q3.1]) (rest := []) ⟨hx, hb, hml, hown, hts⟩ (c_X4_numberOf l D cI cZ N q3.1 q6.1 q6.2 hq6 H.size) ⟨va_cnB 1 hts gX1_endOfClosed_X4_numberOf_n124 rfl rfl rfl (nw_X1_124 hN) (hts (.initialized RX4) (by decide +kernel)) (by decide +kernel) ⟨Nat.le_of_ble_eq_true rfl, Nat.le_of_ble_eq_true rfl⟩, hts (.static yX4_numberOf) (by decide +kernel), trivial⟩ (pS [] hP hD hK hN rfl rfl) rfl rfl hl.1 rfl (lv_room (Nat.le_of_ble_eq_true rfl)) dX1_endOfClosed_36 ⟨Nat.le_of_ble_eq_true rfl, Nat.le_of_ble_eq_true rfl⟩) hP hD hS hA rfl rfl rfl (by decide) rfl rfl (fun H locs hP hD hS => ?_)
        refine lv_aload_n hx hb dX1_endOfClosed_39 rfl (lv_at hl 1 rfl) ?_
        refine va_get (D := D) (ci := 1) (v := .ref (a3 0)) (C := RX1) (T := TX1) (N := 8) hx hb hts in_X1_endOfClosed_X1 hown hK hP 0 rfl rfl 4 (by decide) (hts (.fieldLink RX1 27 "TermLoom$TermStore" "walk" "LTermLoom$Walk;") (by decide +kernel)) (fun _ h9 => h9) rfl dX1_endOfClosed_40 ?_
        obtain ⟨q7, hq7, h⟩ := ob h
        refine mc_i (ws' := wX1 a1 a3 cI cZ (q3.2.1, q7.2)) (wr := ((wX1o a1 a3 cI cZ q3.2.1) : va_W)) [5, 6, 7] [0, 1, 2, 3, 4] [0, 1, 2, 3, 4, 5, 6, 7] (va_runV (As := []) (rest := [.int q6.1]) ⟨hx, hb, hml, hown, hts⟩ (c_X3_around l D cI cZ a3 N q3.2.2 q7.1 q7.2 hq7 H.size) (cwV 0 hts gX1_endOfClosed_X3_around rfl rfl rfl (by decide +kernel) ⟨Nat.le_of_ble_eq_true rfl, Nat.le_of_ble_eq_true rfl⟩) (pV [5, 6, 7] hP hD hK hN rfl rfl rfl rfl) rfl rfl hl.1 rfl (lv_room (Nat.le_of_ble_eq_true rfl)) dX1_endOfClosed_43 ⟨Nat.le_of_ble_eq_true rfl, Nat.le_of_ble_eq_true rfl⟩) hP hD hS hA rfl rfl rfl (by decide) rfl rfl (fun H locs hP hD hS => ?_)
        refine lv_icmp_lt (tgt := 51) hx hb dX1_endOfClosed_46 (by decide) (fun hc8 => ?_) (fun hc8 => ?_)
        · rw [if_pos hc8] at h
          exact k_X1_endOfClosed_51 C0 N (f_X1_endOfClosed_9 N n) ih q3.2.1 q7.2 x2 q3.1 _ _ _ hP hD hS (lv_sub hl [1, 2, 0] rfl) h
        · rw [if_neg hc8] at h
          refine lv_iconst (v := (-1)) hx hb dX1_endOfClosed_49 rfl ?_
          obtain ⟨rfl, rfl⟩ := so h
          exact ret_i C0 hP hD hS dX1_endOfClosed_50
set_option maxHeartbeats 4000000 in
set_option maxRecDepth 100000 in
theorem c_X1_endOfClosed (l : Launch) (D : va_G) (cI cZ : ClassId) (a1 a3 : Nat → Nat) (N : Nat) (t k : St) (x1 : Int32) : MI l yX1_endOfClosed wsX1_endOfClosed ({ frames := 3, cells := 0, slots := 0, locals := 62 } : Room) D cI cZ (wX1 a1 a3 cI cZ) [.ref (a1 0), .int x1] (t, k) (f_X1_endOfClosed N t k x1) := by
  refine MI.of (cc := cX1_endOfClosed) (maxL := 4) (ret := (some .int)) (own := RX1) (by decide) rfl rfl (Nat.le_of_ble_eq_true rfl) ?_
  intro r u1 h p e s m args below meth c A C0 H locs ls hP hD hS hl
  obtain ⟨hx, hb, hml, hr, hown, hts, hlocks, hA, hK, hN⟩ := id C0
  have hl : lv_has ls 4 [(0, .ref (a1 0)), (1, .int x1)] := hl
  unfold f_X1_endOfClosed at h
  refine lv_aload_n hx hb dX1_endOfClosed_0 rfl (lv_at hl 0 rfl) ?_
  refine va_get (D := D) (ci := 1) (v := .ref (a3 0)) (C := RX1) (T := TX1) (N := 8) hx hb hts in_X1_endOfClosed_X1 hown hK hP 0 rfl rfl 4 (by decide) (hts (.fieldLink RX1 27 "TermLoom$TermStore" "walk" "LTermLoom$Walk;") (by decide +kernel)) (fun _ h9 => h9) rfl dX1_endOfClosed_1 ?_
  obtain ⟨q1, hq1, h⟩ := ob h
  refine mc_v (ws' := wX1 a1 a3 cI cZ (t, q1)) (wr := ((wX1o a1 a3 cI cZ t) : va_W)) [5, 6, 7] [0, 1, 2, 3, 4] [0, 1, 2, 3, 4, 5, 6, 7] (va_runV (As := []) (rest := []) ⟨hx, hb, hml, hown, hts⟩ (c_X3_begin l D cI cZ a3 N k q1 hq1 H.size) (cwV 0 hts gX1_endOfClosed_X3_begin rfl rfl rfl (by decide +kernel) ⟨Nat.le_of_ble_eq_true rfl, Nat.le_of_ble_eq_true rfl⟩) (pV [5, 6, 7] hP hD hK hN rfl rfl rfl rfl) rfl rfl hl.1 rfl (lv_room (Nat.le_of_ble_eq_true rfl)) dX1_endOfClosed_4 ⟨Nat.le_of_ble_eq_true rfl, Nat.le_of_ble_eq_true rfl⟩) hP hD hS hA rfl rfl rfl (by decide) rfl rfl (fun H locs hP hD hS => ?_)
  refine lv_iload_n hx hb dX1_endOfClosed_7 rfl (lv_at hl 1 rfl) ?_
  refine lv_istore_n (lv' := [(2, .int x1), (0, .ref (a1 0)), (1, .int x1)]) hx hb dX1_endOfClosed_8 rfl hl (by decide) rfl (fun ls hl => ?_)
  exact k_X1_endOfClosed_9 C0 N N t q1 x1 _ _ _ hP hD hS (lv_sub hl [1, 0] rfl) h
