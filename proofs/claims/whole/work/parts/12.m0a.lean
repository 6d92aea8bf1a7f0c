theorem in_X0_count_X0 : ∀ w ∈ u_ws RX0 TX0 7, w ∈ wsX0_count := by decide +kernel
def f_X0_count (N : Nat) (b : St) : Option (Int32 × St) := some ((b 6 0), b)
set_option maxHeartbeats 4000000 in
set_option maxRecDepth 100000 in
theorem c_X0_count (l : Launch) (D : va_G) (cI cZ : ClassId) (a0 : Nat → Nat) (N : Nat) (b : St) : MI l yX0_count wsX0_count ({ frames := 0, cells := 0, slots := 0, locals := 0 } : Room) D cI cZ (wX0 a0 cI cZ) [.ref (a0 0)] b (f_X0_count N b) := by
  refine MI.of (cc := cX0_count) (maxL := 1) (ret := (some .int)) (own := RX0) (by decide) rfl rfl (Nat.le_of_ble_eq_true rfl) ?_
  intro r u1 h p e s m args below meth c A C0 H locs ls hP hD hS hl
  obtain ⟨hx, hb, hml, hr, hown, hts, hlocks, hA, hK, hN⟩ := id C0
  have hl : lv_has ls 1 [(0, .ref (a0 0))] := hl
  unfold f_X0_count at h
  refine lv_aload_n hx hb dX0_count_0 rfl (lv_at hl 0 rfl) ?_
  refine va_get (D := D) (ci := 0) (v := .int (b 6 0)) (C := RX0) (T := TX0) (N := 7) hx hb hts in_X0_count_X0 hown hK hP 0 rfl rfl 6 (by decide) (hts (.fieldLink RX0 36 "TermLoom$Bindings" "count" "I") (by decide +kernel)) (fun _ h9 => h9) rfl dX0_count_1 ?_
  obtain ⟨rfl, rfl⟩ := so h
  exact ret_i C0 hP hD hS dX0_count_4

theorem in_X0_from_X0 : ∀ w ∈ u_ws RX0 TX0 7, w ∈ wsX0_from := by decide +kernel
def f_X0_from (N : Nat) (b : St) (x1 : Int32) : Option (Int32 × St) := (f_X4_read N 2000 (b 2) x1).bind (fun q1 => some (q1.1, b))
set_option maxHeartbeats 4000000 in
set_option maxRecDepth 100000 in
theorem c_X0_from (l : Launch) (D : va_G) (cI cZ : ClassId) (a0 : Nat → Nat) (N : Nat) (b : St) (x1 : Int32) : MI l yX0_from wsX0_from ({ frames := 1, cells := 0, slots := 0, locals := 21 } : Room) D cI cZ (wX0 a0 cI cZ) [.ref (a0 0), .int x1] b (f_X0_from N b x1) := by
  refine MI.of (cc := cX0_from) (maxL := 2) (ret := (some .int)) (own := RX0) (by decide) rfl rfl (Nat.le_of_ble_eq_true rfl) ?_
  intro r u1 h p e s m args below meth c A C0 H locs ls hP hD hS hl
  obtain ⟨hx, hb, hml, hr, hown, hts, hlocks, hA, hK, hN⟩ := id C0
  have hl : lv_has ls 2 [(0, .ref (a0 0)), (1, .int x1)] := hl
  unfold f_X0_from at h
  refine lv_aload_n hx hb dX0_from_0 rfl (lv_at hl 0 rfl) ?_
  refine va_get (D := D) (ci := 0) (v := .ref (a0 3)) (C := RX0) (T := TX0) (N := 7) hx hb hts in_X0_from_X0 hown hK hP 0 rfl rfl 2 (by decide) (hts (.fieldLink RX0 18 "TermLoom$Bindings" "froms" "[I") (by decide +kernel)) (fun _ h9 => h9) rfl dX0_from_1 ?_
  refine lv_iload_n hx hb dX0_from_4 rfl (lv_at hl 1 rfl) ?_
  obtain ⟨q1, hq1, h⟩ := ob h
  refine mc_i (ws' := wX0 a0 cI cZ b) (wr := ((wX0 a0 cI cZ b).eraseIdx 3)) [3] [0, 1, 2, 4, 5, 6] [0, 1, 2, 6, 3, 4, 5] (va_runSN (As := [.ref (a0 3), .int x1]) (rest := []) ⟨hx, hb, hml, hown, hts⟩ (c_X4_read l D cI cZ (a0 3) 2000 (b 2) N x1 q1.1 q1.2 hq1 H.size) ⟨va_cnB 2 hts gX0_from_X4_read_n40 rfl rfl rfl (nw_X0_40 hN) (hts (.initialized RX4) (by decide +kernel)) (by decide +kernel) ⟨Nat.le_of_ble_eq_true rfl, Nat.le_of_ble_eq_true rfl⟩, hts (.static yX4_read) (by decide +kernel), trivial⟩ (pS [3] hP hD hK hN rfl rfl) rfl rfl hl.1 rfl (lv_room (Nat.le_of_ble_eq_true rfl)) dX0_from_5 ⟨Nat.le_of_ble_eq_true rfl, Nat.le_of_ble_eq_true rfl⟩) hP hD hS hA rfl rfl rfl (by decide) rfl rfl (fun H locs hP hD hS => ?_)
  obtain ⟨rfl, rfl⟩ := so h
  exact ret_i C0 hP hD hS dX0_from_8

theorem in_X0_end_X0 : ∀ w ∈ u_ws RX0 TX0 7, w ∈ wsX0_end := by decide +kernel
def f_X0_end (N : Nat) (b : St) (x1 : Int32) : Option (Int32 × St) := (f_X4_read N 2000 (b 3) x1).bind (fun q1 => some (q1.1, b))
set_option maxHeartbeats 4000000 in
set_option maxRecDepth 100000 in
theorem c_X0_end (l : Launch) (D : va_G) (cI cZ : ClassId) (a0 : Nat → Nat) (N : Nat) (b : St) (x1 : Int32) : MI l yX0_end wsX0_end ({ frames := 1, cells := 0, slots := 0, locals := 21 } : Room) D cI cZ (wX0 a0 cI cZ) [.ref (a0 0), .int x1] b (f_X0_end N b x1) := by
  refine MI.of (cc := cX0_end) (maxL := 2) (ret := (some .int)) (own := RX0) (by decide) rfl rfl (Nat.le_of_ble_eq_true rfl) ?_
  intro r u1 h p e s m args below meth c A C0 H locs ls hP hD hS hl
  obtain ⟨hx, hb, hml, hr, hown, hts, hlocks, hA, hK, hN⟩ := id C0
  have hl : lv_has ls 2 [(0, .ref (a0 0)), (1, .int x1)] := hl
  unfold f_X0_end at h
  refine lv_aload_n hx hb dX0_end_0 rfl (lv_at hl 0 rfl) ?_
  refine va_get (D := D) (ci := 0) (v := .ref (a0 4)) (C := RX0) (T := TX0) (N := 7) hx hb hts in_X0_end_X0 hown hK hP 0 rfl rfl 3 (by decide) (hts (.fieldLink RX0 21 "TermLoom$Bindings" "ends" "[I") (by decide +kernel)) (fun _ h9 => h9) rfl dX0_end_1 ?_
  refine lv_iload_n hx hb dX0_end_4 rfl (lv_at hl 1 rfl) ?_
  obtain ⟨q1, hq1, h⟩ := ob h
  refine mc_i (ws' := wX0 a0 cI cZ b) (wr := ((wX0 a0 cI cZ b).eraseIdx 4)) [4] [0, 1, 2, 3, 5, 6] [0, 1, 2, 3, 6, 4, 5] (va_runSN (As := [.ref (a0 4), .int x1]) (rest := []) ⟨hx, hb, hml, hown, hts⟩ (c_X4_read l D cI cZ (a0 4) 2000 (b 3) N x1 q1.1 q1.2 hq1 H.size) ⟨va_cnB 2 hts gX0_end_X4_read_n40 rfl rfl rfl (nw_X0_40 hN) (hts (.initialized RX4) (by decide +kernel)) (by decide +kernel) ⟨Nat.le_of_ble_eq_true rfl, Nat.le_of_ble_eq_true rfl⟩, hts (.static yX4_read) (by decide +kernel), trivial⟩ (pS [4] hP hD hK hN rfl rfl) rfl rfl hl.1 rfl (lv_room (Nat.le_of_ble_eq_true rfl)) dX0_end_5 ⟨Nat.le_of_ble_eq_true rfl, Nat.le_of_ble_eq_true rfl⟩) hP hD hS hA rfl rfl rfl (by decide) rfl rfl (fun H locs hP hD hS => ?_)
  obtain ⟨rfl, rfl⟩ := so h
  exact ret_i C0 hP hD hS dX0_end_8

theorem in_X0_setNewest_X0 : ∀ w ∈ u_ws RX0 TX0 7, w ∈ wsX0_setNewest := by decide +kernel
def f_X0_setNewest_23 (N : Nat) (b : St) : Option (St) := some b
def f_X0_setNewest (N : Nat) (b : St) (x1 x2 : Int32) : Option (St) := (f_X4_numberOf N x1).bind (fun q1 => if q1.1 < 0 then f_X0_setNewest_23 N b else if 1000 ≤ q1.1 then f_X0_setNewest_23 N b else if q1.1 < 0 ∨ 1000 ≤ (q1.1).toNatClampNeg then none else bnd (up2 b 5 (q1.1).toNatClampNeg x2) (fun b4 => f_X0_setNewest_23 N b4))
abbrev KP_X0_setNewest_23 (p : Program) (l : Launch) (e : Env) (s : State) (m : MethodId) (args : Array Value) (below : List Frame) (meth : Method) (c : Code) (D : va_G) (cI cZ : ClassId) (a0 : Nat → Nat) (A : Nat → Prop) (u1 : St) (K : St → Option (St)) : Prop := ∀ (b : St) (H : Heap) (locs : List Loc) (ls : Array Slot), va_P D vwCl (wX0 a0 cI cZ b) H → va_D A (wX0 a0 cI cZ b) → va_S A s.heap H locs → lv_has ls 4 [] → K b = some u1 → W p l e ({ frames := 1, cells := 0, slots := 0, locals := 20 } : Room) s m args below meth c H locs 0 0 (QV below args s D cI cZ (wX0 a0 cI cZ) A u1) (F0 m 23 ls [])
set_option maxHeartbeats 4000000 in
set_option maxRecDepth 100000 in
theorem k_X0_setNewest_23 {p : Program} {l : Launch} {e : Env} {s : State} {m : MethodId} {args : Array Value} {below : List Frame} {meth : Method} {c : Code} {D : va_G} {cI cZ : ClassId} {a0 : Nat → Nat} {A : Nat → Prop} {u1 : St} (C0 : mB p s m args meth c D cI cZ A cX0_setNewest 4 none wsX0_setNewest RX0) (N : Nat) : KP_X0_setNewest_23 p l e s m args below meth c D cI cZ a0 A u1 (f_X0_setNewest_23 N) := by
  obtain ⟨hx, hb, hml, hr, hown, hts, hlocks, hA, hK, hN⟩ := id C0
  intro b H locs ls hP hD hS hl h
  unfold f_X0_setNewest_23 at h
  obtain rfl := so1 h
  exact ret_v C0 hP hD hS dX0_setNewest_23
set_option maxHeartbeats 4000000 in
set_option maxRecDepth 100000 in
theorem c_X0_setNewest (l : Launch) (D : va_G) (cI cZ : ClassId) (a0 : Nat → Nat) (N : Nat) (b : St) (x1 x2 : Int32) : MV l yX0_setNewest wsX0_setNewest ({ frames := 1, cells := 0, slots := 0, locals := 20 } : Room) D cI cZ (wX0 a0 cI cZ) [.ref (a0 0), .int x1, .int x2] b (f_X0_setNewest N b x1 x2) := by
  refine MV.of (cc := cX0_setNewest) (maxL := 4) (ret := none) (own := RX0) (by decide) rfl rfl (Nat.le_of_ble_eq_true rfl) ?_
  intro u1 h p e s m args below meth c A C0 H locs ls hP hD hS hl
  obtain ⟨hx, hb, hml, hr, hown, hts, hlocks, hA, hK, hN⟩ := id C0
  have hl : lv_has ls 4 [(0, .ref (a0 0)), (1, .int x1), (2, .int x2)] := hl
  unfold f_X0_setNewest at h
  refine lv_iload_n hx hb dX0_setNewest_0 rfl (lv_at hl 1 rfl) ?_
  obtain ⟨q1, hq1, h⟩ := ob h
  refine mc_i (ws' := wX0 a0 cI cZ b) (wr := ((wX0o a0 cI cZ b) : va_W)) [] [0, 1, 2, 3, 4, 5, 6] [0, 1, 2, 3, 4, 5, 6] (va_runSN (As := [.int x1]) (rest := []) ⟨hx, hb, hml, hown, hts⟩ (c_X4_numberOf l D cI cZ N x1 q1.1 q1.2 hq1 H.size) ⟨va_cnB 1 hts gX0_setNewest_X4_numberOf_n48 rfl rfl rfl (nw_X0_48 hN) (hts (.initialized RX4) (by decide +kernel)) (by decide +kernel) ⟨Nat.le_of_ble_eq_true rfl, Nat.le_of_ble_eq_true rfl⟩, hts (.static yX4_numberOf) (by decide +kernel), trivial⟩ (pS [] hP hD hK hN rfl rfl) rfl rfl hl.1 rfl (lv_room (Nat.le_of_ble_eq_true rfl)) dX0_setNewest_1 ⟨Nat.le_of_ble_eq_true rfl, Nat.le_of_ble_eq_true rfl⟩) hP hD hS hA rfl rfl rfl (by decide) rfl rfl (fun H locs hP hD hS => ?_)
  refine lv_istore_n (lv' := [(3, .int q1.1), (0, .ref (a0 0)), (1, .int x1), (2, .int x2)]) hx hb dX0_setNewest_4 rfl hl (by decide) rfl (fun ls hl => ?_)
  refine lv_iload_n hx hb dX0_setNewest_5 rfl (lv_at hl 0 rfl) ?_
  refine lv_if_lt (tgt := 23) hx hb dX0_setNewest_6 (by decide) (fun hc2 => ?_) (fun hc2 => ?_)
  · rw [if_pos hc2] at h
    exact k_X0_setNewest_23 C0 N b _ _ _ hP hD hS (lv_sub hl [] rfl) h
  · rw [if_neg hc2] at h
    refine lv_iload_n hx hb dX0_setNewest_9 rfl (lv_at hl 0 rfl) ?_
    refine lv_sipush (v := 1000) hx hb dX0_setNewest_10 rfl ?_
    refine lv_icmp_ge (tgt := 23) hx hb dX0_setNewest_13 (by decide) (fun hc3 => ?_) (fun hc3 => ?_)
    · rw [if_pos hc3] at h
      exact k_X0_setNewest_23 C0 N b _ _ _ hP hD hS (lv_sub hl [] rfl) h
    · rw [if_neg hc3] at h
      refine lv_aload_n hx hb dX0_setNewest_16 rfl (lv_at hl 1 rfl) ?_
      refine va_get (D := D) (ci := 0) (v := .ref (a0 6)) (C := RX0) (T := TX0) (N := 7) hx hb hts in_X0_setNewest_X0 hown hK hP 0 rfl rfl 5 (by decide) (hts (.fieldLink RX0 27 "TermLoom$Bindings" "newest" "[I") (by decide +kernel)) (fun _ h9 => h9) rfl dX0_setNewest_17 ?_
      refine lv_iload_n hx hb dX0_setNewest_20 rfl (lv_at hl 0 rfl) ?_
      refine lv_iload_n hx hb dX0_setNewest_21 rfl (lv_at hl 3 rfl) ?_
      by_cases hi : q1.1 < 0 ∨ 1000 ≤ (q1.1).toNatClampNeg
      · rw [if_pos hi] at h; exact no h
      rw [if_neg hi] at h
      refine va_iast (f := (b 5)) hx hb hK hP hD hS 6 0 rfl rfl (i := q1.1) (x := x2) hi dX0_setNewest_22 (fun H locs hP hD hS => ?_)
      obtain ⟨b4, eb4, h⟩ := bn h
      have hP : va_P D vwCl (wX0 a0 cI cZ b4) H := by rw [eb4]; exact hP
      have hD : va_D A (wX0 a0 cI cZ b4) := by rw [eb4]; exact hD
      exact k_X0_setNewest_23 C0 N b4 _ _ _ hP hD hS (lv_sub hl [] rfl) h

theorem in_X0_forget_X0 : ∀ w ∈ u_ws RX0 TX0 7, w ∈ wsX0_forget := by decide +kernel
def f_X0_forget_34 (N : Nat) (b : St) : Option (St) := bnd (up2 b 6 0 0) (fun b1 => some b1)
def f_X0_forget_2 (N : Nat) : Nat → St → Int32 → Option (St)
  | 0, _, _ => none
  | n + 1, b, x1 => if (b 6 0) ≤ x1 then f_X0_forget_34 N b else if 2000 ≤ x1 then f_X0_forget_34 N b else if x1 < 0 ∨ 2000 ≤ (x1).toNatClampNeg then none else (f_X0_setNewest N b (b 0 (x1).toNatClampNeg) (-1)).bind (fun q3 => f_X0_forget_2 N n q3 (x1 + 1))
def f_X0_forget (N : Nat) (b : St) : Option (St) := f_X0_forget_2 N N b 0
abbrev KP_X0_forget_34 (p : Program) (l : Launch) (e : Env) (s : State) (m : MethodId) (args : Array Value) (below : List Frame) (meth : Method) (c : Code) (D : va_G) (cI cZ : ClassId) (a0 : Nat → Nat) (A : Nat → Prop) (u1 : St) (K : St → Option (St)) : Prop := ∀ (b : St) (H : Heap) (locs : List Loc) (ls : Array Slot), va_P D vwCl (wX0 a0 cI cZ b) H → va_D A (wX0 a0 cI cZ b) → va_S A s.heap H locs → lv_has ls 2 [(0, .ref (a0 0))] → K b = some u1 → W p l e ({ frames := 2, cells := 0, slots := 0, locals := 43 } : Room) s m args below meth c H locs 0 0 (QV below args s D cI cZ (wX0 a0 cI cZ) A u1) (F0 m 34 ls [])
abbrev KP_X0_forget_2 (p : Program) (l : Launch) (e : Env) (s : State) (m : MethodId) (args : Array Value) (below : List Frame) (meth : Method) (c : Code) (D : va_G) (cI cZ : ClassId) (a0 : Nat → Nat) (A : Nat → Prop) (u1 : St) (K : St → Int32 → Option (St)) : Prop := ∀ (b : St) (x1 : Int32) (H : Heap) (locs : List Loc) (ls : Array Slot), va_P D vwCl (wX0 a0 cI cZ b) H → va_D A (wX0 a0 cI cZ b) → va_S A s.heap H locs → lv_has ls 2 [(0, .ref (a0 0)), (1, .int x1)] → K b x1 = some u1 → W p l e ({ frames := 2, cells := 0, slots := 0, locals := 43 } : Room) s m args below meth c H locs 0 0 (QV below args s D cI cZ (wX0 a0 cI cZ) A u1) (F0 m 2 ls [])
set_option maxHeartbeats 4000000 in
set_option maxRecDepth 100000 in
theorem k_X0_forget_34 {p : Program} {l : Launch} {e : Env} {s : State} {m : MethodId} {args : Array Value} {below : List Frame} {meth : Method} {c : Code} {D : va_G} {cI cZ : ClassId} {a0 : Nat → Nat} {A : Nat → Prop} {u1 : St} (C0 : mB p s m args meth c D cI cZ A cX0_forget 2 none wsX0_forget RX0) (N : Nat) : KP_X0_forget_34 p l e s m args below meth c D cI cZ a0 A u1 (f_X0_forget_34 N) := by
  obtain ⟨hx, hb, hml, hr, hown, hts, hlocks, hA, hK, hN⟩ := id C0
  intro b H locs ls hP hD hS hl h
  unfold f_X0_forget_34 at h
  refine lv_aload_n hx hb dX0_forget_34 rfl (lv_at hl 0 rfl) ?_
  refine lv_iconst (v := 0) hx hb dX0_forget_35 rfl ?_
  refine va_put (D := D) (ci := 0) (v := .int 0) (ty := .int) (C := RX0) (T := TX0) (N := 7) hx hb hts in_X0_forget_X0 tyX0 tyX0_ok nmX0 hown hK hP hD hS 0 rfl rfl 6 (by decide) (hts (.fieldLink RX0 36 "TermLoom$Bindings" "count" "I") (by decide +kernel)) (fun _ h9 => h9) rfl (by decide +kernel) rfl rfl (Nat.le_of_ble_eq_true rfl) dX0_forget_36 (fun H locs hP hD hS => ?_)
  obtain ⟨b1, eb1, h⟩ := bn h
  have hP : va_P D vwCl (wX0 a0 cI cZ b1) H := by rw [eb1]; exact hP
  have hD : va_D A (wX0 a0 cI cZ b1) := by rw [eb1]; exact hD
  obtain rfl := so1 h
  exact ret_v C0 hP hD hS dX0_forget_39
set_option maxHeartbeats 4000000 in
set_option maxRecDepth 100000 in
theorem k_X0_forget_2 {p : Program} {l : Launch} {e : Env} {s : State} {m : MethodId} {args : Array Value} {below : List Frame} {meth : Method} {c : Code} {D : va_G} {cI cZ : ClassId} {a0 : Nat → Nat} {A : Nat → Prop} {u1 : St} (C0 : mB p s m args meth c D cI cZ A cX0_forget 2 none wsX0_forget RX0) (N : Nat) : ∀ n : Nat, KP_X0_forget_2 p l e s m args below meth c D cI cZ a0 A u1 (f_X0_forget_2 N n) := by
  obtain ⟨hx, hb, hml, hr, hown, hts, hlocks, hA, hK, hN⟩ := id C0
  intro n
  induction n with
  | zero =>
    intro b x1 H locs ls hP hD hS hl h
    exact no (show (none : Option (St)) = _ from h)
  | succ n ih =>
    intro b x1 H locs ls hP hD hS hl h
    rw [f_X0_forget_2] at h
    refine lv_iload_n hx hb dX0_forget_2 rfl (lv_at hl 1 rfl) ?_
    refine lv_aload_n hx hb dX0_forget_3 rfl (lv_at hl 0 rfl) ?_
    refine va_get (D := D) (ci := 0) (v := .int (b 6 0)) (C := RX0) (T := TX0) (N := 7) hx hb hts in_X0_forget_X0 hown hK hP 0 rfl rfl 6 (by decide) (hts (.fieldLink RX0 36 "TermLoom$Bindings" "count" "I") (by decide +kernel)) (fun _ h9 => h9) rfl dX0_forget_4 ?_
    refine lv_icmp_ge (tgt := 34) hx hb dX0_forget_7 (by decide) (fun hc1 => ?_) (fun hc1 => ?_)
    · rw [if_pos hc1] at h
      exact k_X0_forget_34 C0 N b _ _ _ hP hD hS (lv_sub hl [0] rfl) h
    · rw [if_neg hc1] at h
      refine lv_iload_n hx hb dX0_forget_10 rfl (lv_at hl 1 rfl) ?_
      refine lv_sipush (v := 2000) hx hb dX0_forget_11 rfl ?_
      refine lv_icmp_ge (tgt := 34) hx hb dX0_forget_14 (by decide) (fun hc2 => ?_) (fun hc2 => ?_)
      · rw [if_pos hc2] at h
        exact k_X0_forget_34 C0 N b _ _ _ hP hD hS (lv_sub hl [0] rfl) h
      · rw [if_neg hc2] at h
        refine lv_aload_n hx hb dX0_forget_17 rfl (lv_at hl 0 rfl) ?_
        refine lv_aload_n hx hb dX0_forget_18 rfl (lv_at hl 0 rfl) ?_
        refine va_get (D := D) (ci := 0) (v := .ref (a0 1)) (C := RX0) (T := TX0) (N := 7) hx hb hts in_X0_forget_X0 hown hK hP 0 rfl rfl 0 (by decide) (hts (.fieldLink RX0 9 "TermLoom$Bindings" "codes" "[I") (by decide +kernel)) (fun _ h9 => h9) rfl dX0_forget_19 ?_
        refine lv_iload_n hx hb dX0_forget_22 rfl (lv_at hl 1 rfl) ?_
        by_cases hi : x1 < 0 ∨ 2000 ≤ (x1).toNatClampNeg
        · rw [if_pos hi] at h; exact no h
        rw [if_neg hi] at h
        refine va_iald (f := (b 0)) hx hb hK hP 1 0 rfl rfl (i := x1) hi dX0_forget_23 ?_
        refine lv_iconst (v := (-1)) hx hb dX0_forget_24 rfl ?_
        obtain ⟨q3, hq3, h⟩ := ob h
        refine mc_v (ws' := wX0 a0 cI cZ q3) (wr := ([] : va_W)) [0, 1, 2, 3, 4, 5, 6] [] [0, 1, 2, 3, 4, 5, 6] (va_runV (As := [.int (b 0 (x1).toNatClampNeg), .int (-1)]) (rest := []) ⟨hx, hb, hml, hown, hts⟩ (c_X0_setNewest l D cI cZ a0 N b (b 0 (x1).toNatClampNeg) (-1) q3 hq3 H.size) (cwV 2 hts gX0_forget_X0_setNewest rfl rfl rfl (by decide +kernel) ⟨Nat.le_of_ble_eq_true rfl, Nat.le_of_ble_eq_true rfl⟩) (pV [0, 1, 2, 3, 4, 5, 6] hP hD hK hN rfl rfl rfl rfl) rfl rfl hl.1 rfl (lv_room (Nat.le_of_ble_eq_true rfl)) dX0_forget_25 ⟨Nat.le_of_ble_eq_true rfl, Nat.le_of_ble_eq_true rfl⟩) hP hD hS hA rfl rfl rfl (by decide) rfl rfl (fun H locs hP hD hS => ?_)
        refine lv_iinc (v := (x1 + 1)) (lv' := [(1, .int (x1 + 1)), (0, .ref (a0 0))]) hx hb dX0_forget_28 hl (k := 1) rfl rfl (by decide) rfl (fun ls hl => ?_)
        refine lv_goto (tgt := 2) hx hb dX0_forget_31 (by decide) ?_
        exact ih q3 (x1 + 1) _ _ _ hP hD hS (lv_sub hl [1, 0] rfl) h
set_option maxHeartbeats 4000000 in
set_option maxRecDepth 100000 in
theorem c_X0_forget (l : Launch) (D : va_G) (cI cZ : ClassId) (a0 : Nat → Nat) (N : Nat) (b : St) : MV l yX0_forget wsX0_forget ({ frames := 2, cells := 0, slots := 0, locals := 43 } : Room) D cI cZ (wX0 a0 cI cZ) [.ref (a0 0)] b (f_X0_forget N b) := by
  refine MV.of (cc := cX0_forget) (maxL := 2) (ret := none) (own := RX0) (by decide) rfl rfl (Nat.le_of_ble_eq_true rfl) ?_
  intro u1 h p e s m args below meth c A C0 H locs ls hP hD hS hl
  obtain ⟨hx, hb, hml, hr, hown, hts, hlocks, hA, hK, hN⟩ := id C0
  have hl : lv_has ls 2 [(0, .ref (a0 0))] := hl
  unfold f_X0_forget at h
  refine lv_iconst (v := 0) hx hb dX0_forget_0 rfl ?_
  refine lv_istore_n (lv' := [(1, .int 0), (0, .ref (a0 0))]) hx hb dX0_forget_1 rfl hl (by decide) rfl (fun ls hl => ?_)
  exact k_X0_forget_2 C0 N N b 0 _ _ _ hP hD hS (lv_sub hl [1, 0] rfl) h

theorem in_X0_find_X0 : ∀ w ∈ u_ws RX0 TX0 7, w ∈ wsX0_find := by decide +kernel
def f_X0_find_57 (N : Nat) (b : St) : Option (Int32 × St) := some ((-1), b)
def f_X0_find_18 (N : Nat) : Nat → St → Int32 → Int32 → Int32 → Option (Int32 × St)
  | 0, _, _, _, _ => none
  | n + 1, b, x2, x3, x4 => if x4 ≤ 0 then f_X0_find_57 N b else if x3 = (-1) then f_X0_find_57 N b else (f_X4_read N 2000 (b 1) x3).bind (fun q3 => if q3.1 = x2 then some (x3, b) else (f_X4_read N 2000 (b 4) x3).bind (fun q5 => f_X0_find_18 N n b x2 q5.1 (x4 + (-1))))
def f_X0_find (N : Nat) (b : St) (x1 x2 : Int32) : Option (Int32 × St) := (f_X4_numberOf N x1).bind (fun q1 => (f_X4_read N 1000 (b 5) q1.1).bind (fun q2 => f_X0_find_18 N N b x2 q2.1 (b 6 0)))
abbrev KP_X0_find_57 (p : Program) (l : Launch) (e : Env) (s : State) (m : MethodId) (args : Array Value) (below : List Frame) (meth : Method) (c : Code) (D : va_G) (cI cZ : ClassId) (a0 : Nat → Nat) (A : Nat → Prop) (r : Int32) (u1 : St) (K : St → Option (Int32 × St)) : Prop := ∀ (b : St) (H : Heap) (locs : List Loc) (ls : Array Slot), va_P D vwCl (wX0 a0 cI cZ b) H → va_D A (wX0 a0 cI cZ b) → va_S A s.heap H locs → lv_has ls 5 [] → K b = some (r, u1) → W p l e ({ frames := 1, cells := 0, slots := 0, locals := 21 } : Room) s m args below meth c H locs 0 0 (QI below args s D cI cZ (wX0 a0 cI cZ) A r u1) (F0 m 57 ls [])
abbrev KP_X0_find_18 (p : Program) (l : Launch) (e : Env) (s : State) (m : MethodId) (args : Array Value) (below : List Frame) (meth : Method) (c : Code) (D : va_G) (cI cZ : ClassId) (a0 : Nat → Nat) (A : Nat → Prop) (r : Int32) (u1 : St) (K : St → Int32 → Int32 → Int32 → Option (Int32 × St)) : Prop := ∀ (b : St) (x2 x3 x4 : Int32) (H : Heap) (locs : List Loc) (ls : Array Slot), va_P D vwCl (wX0 a0 cI cZ b) H → va_D A (wX0 a0 cI cZ b) → va_S A s.heap H locs → lv_has ls 5 [(0, .ref (a0 0)), (2, .int x2), (3, .int x3), (4, .int x4)] → K b x2 x3 x4 = some (r, u1) → W p l e ({ frames := 1, cells := 0, slots := 0, locals := 21 } : Room) s m args below meth c H locs 0 0 (QI below args s D cI cZ (wX0 a0 cI cZ) A r u1) (F0 m 18 ls [])
set_option maxHeartbeats 4000000 in
set_option maxRecDepth 100000 in
theorem k_X0_find_57 {p : Program} {l : Launch} {e : Env} {s : State} {m : MethodId} {args : Array Value} {below : List Frame} {meth : Method} {c : Code} {D : va_G} {cI cZ : ClassId} {a0 : Nat → Nat} {A : Nat → Prop} {r : Int32} {u1 : St} (C0 : mB p s m args meth c D cI cZ A cX0_find 5 (some .int) wsX0_find RX0) (N : Nat) : KP_X0_find_57 p l e s m args below meth c D cI cZ a0 A r u1 (f_X0_find_57 N) := by
  obtain ⟨hx, hb, hml, hr, hown, hts, hlocks, hA, hK, hN⟩ := id C0
  intro b H locs ls hP hD hS hl h
  unfold f_X0_find_57 at h
  refine lv_iconst (v := (-1)) hx hb dX0_find_57 rfl ?_
  obtain ⟨rfl, rfl⟩ := so h
  exact ret_i C0 hP hD hS dX0_find_58
set_option maxHeartbeats 4000000 in
set_option maxRecDepth 100000 in
theorem k_X0_find_18 {p : Program} {l : Launch} {e : Env} {s : State} {m : MethodId} {args : Array Value} {below : List Frame} {meth : Method} {c : Code} {D : va_G} {cI cZ : ClassId} {a0 : Nat → Nat} {A : Nat → Prop} {r : Int32} {u1 : St} (C0 : mB p s m args meth c D cI cZ A cX0_find 5 (some .int) wsX0_find RX0) (N : Nat) : ∀ n : Nat, KP_X0_find_18 p l e s m args below meth c D cI cZ a0 A r u1 (f_X0_find_18 N n) := by
  obtain ⟨hx, hb, hml, hr, hown, hts, hlocks, hA, hK, hN⟩ := id C0
  intro n
  induction n with
  | zero =>
    intro b x2 x3 x4 H locs ls hP hD hS hl h
    exact no (show (none : Option (Int32 × St)) = _ from h)
  | succ n ih =>
    intro b x2 x3 x4 H locs ls hP hD hS hl h
    rw [f_X0_find_18] at h
    refine lv_iload hx hb dX0_find_18 (lv_at hl 3 rfl) ?_
    refine lv_if_le (tgt := 57) hx hb dX0_find_20 (by decide) (fun hc1 => ?_) (fun hc1 => ?_)
    · rw [if_pos hc1] at h
      exact k_X0_find_57 C0 N b _ _ _ hP hD hS (lv_sub hl [] rfl) h
    · rw [if_neg hc1] at h
      refine lv_iload_n hx hb dX0_find_23 rfl (lv_at hl 2 rfl) ?_
      refine lv_iconst (v := (-1)) hx hb dX0_find_24 rfl ?_
      refine lv_icmp_eq (tgt := 57) hx hb dX0_find_25 (by decide) (fun hc2 => ?_) (fun hc2 => ?_)
      · rw [if_pos hc2] at h
        exact k_X0_find_57 C0 N b _ _ _ hP hD hS (lv_sub hl [] rfl) h
      · rw [if_neg hc2] at h
        refine lv_aload_n hx hb dX0_find_28 rfl (lv_at hl 0 rfl) ?_
        refine va_get (D := D) (ci := 0) (v := .ref (a0 2)) (C := RX0) (T := TX0) (N := 7) hx hb hts in_X0_find_X0 hown hK hP 0 rfl rfl 1 (by decide) (hts (.fieldLink RX0 15 "TermLoom$Bindings" "variableTypes" "[I") (by decide +kernel)) (fun _ h9 => h9) rfl dX0_find_29 ?_
        refine lv_iload_n hx hb dX0_find_32 rfl (lv_at hl 2 rfl) ?_
        obtain ⟨q3, hq3, h⟩ := ob h
        refine mc_i (ws' := wX0 a0 cI cZ b) (wr := ((wX0 a0 cI cZ b).eraseIdx 2)) [2] [0, 1, 3, 4, 5, 6] [0, 1, 6, 2, 3, 4, 5] (va_runSN (As := [.ref (a0 2), .int x3]) (rest := []) ⟨hx, hb, hml, hown, hts⟩ (c_X4_read l D cI cZ (a0 2) 2000 (b 1) N x3 q3.1 q3.2 hq3 H.size) ⟨va_cnB 2 hts gX0_find_X4_read_n40 rfl rfl rfl (nw_X0_40 hN) (hts (.initialized RX4) (by decide +kernel)) (by decide +kernel) ⟨Nat.le_of_ble_eq_true rfl, Nat.le_of_ble_eq_true rfl⟩, hts (.static yX4_read) (by decide +kernel), trivial⟩ (pS [2] hP hD hK hN rfl rfl) rfl rfl hl.1 rfl (lv_room (Nat.le_of_ble_eq_true rfl)) dX0_find_33 ⟨Nat.le_of_ble_eq_true rfl, Nat.le_of_ble_eq_true rfl⟩) hP hD hS hA rfl rfl rfl (by decide) rfl rfl (fun H locs hP hD hS => ?_)
        refine lv_iload_n hx hb dX0_find_36 rfl (lv_at hl 1 rfl) ?_
        refine lv_icmp_ne (tgt := 42) hx hb dX0_find_37 (by decide) (fun hc4 => ?_) (fun hc4 => ?_)
        · rw [if_neg hc4] at h
          refine lv_aload_n hx hb dX0_find_42 rfl (lv_at hl 0 rfl) ?_
          refine va_get (D := D) (ci := 0) (v := .ref (a0 5)) (C := RX0) (T := TX0) (N := 7) hx hb hts in_X0_find_X0 hown hK hP 0 rfl rfl 4 (by decide) (hts (.fieldLink RX0 24 "TermLoom$Bindings" "older" "[I") (by decide +kernel)) (fun _ h9 => h9) rfl dX0_find_43 ?_
          refine lv_iload_n hx hb dX0_find_46 rfl (lv_at hl 2 rfl) ?_
          obtain ⟨q5, hq5, h⟩ := ob h
          refine mc_i (ws' := wX0 a0 cI cZ b) (wr := ((wX0 a0 cI cZ b).eraseIdx 5)) [5] [0, 1, 2, 3, 4, 6] [0, 1, 2, 3, 4, 6, 5] (va_runSN (As := [.ref (a0 5), .int x3]) (rest := []) ⟨hx, hb, hml, hown, hts⟩ (c_X4_read l D cI cZ (a0 5) 2000 (b 4) N x3 q5.1 q5.2 hq5 H.size) ⟨va_cnB 2 hts gX0_find_X4_read_n40 rfl rfl rfl (nw_X0_40 hN) (hts (.initialized RX4) (by decide +kernel)) (by decide +kernel) ⟨Nat.le_of_ble_eq_true rfl, Nat.le_of_ble_eq_true rfl⟩, hts (.static yX4_read) (by decide +kernel), trivial⟩ (pS [5] hP hD hK hN rfl rfl) rfl rfl hl.1 rfl (lv_room (Nat.le_of_ble_eq_true rfl)) dX0_find_47 ⟨Nat.le_of_ble_eq_true rfl, Nat.le_of_ble_eq_true rfl⟩) hP hD hS hA rfl rfl rfl (by decide) rfl rfl (fun H locs hP hD hS => ?_)
          refine lv_istore_n (lv' := [(3, .int q5.1), (0, .ref (a0 0)), (2, .int x2), (4, .int x4)]) hx hb dX0_find_50 rfl hl (by decide) rfl (fun ls hl => ?_)
          refine lv_iinc (v := (x4 + (-1))) (lv' := [(4, .int (x4 + (-1))), (3, .int q5.1), (0, .ref (a0 0)), (2, .int x2)]) hx hb dX0_find_51 hl (k := 3) rfl rfl (by decide) rfl (fun ls hl => ?_)
          refine lv_goto (tgt := 18) hx hb dX0_find_54 (by decide) ?_
          exact ih b x2 q5.1 (x4 + (-1)) _ _ _ hP hD hS (lv_sub hl [2, 3, 1, 0] rfl) h
        · rw [if_pos hc4] at h
          refine lv_iload_n hx hb dX0_find_40 rfl (lv_at hl 2 rfl) ?_
          obtain ⟨rfl, rfl⟩ := so h
          exact ret_i C0 hP hD hS dX0_find_41
set_option maxHeartbeats 4000000 in
set_option maxRecDepth 100000 in
theorem c_X0_find (l : Launch) (D : va_G) (cI cZ : ClassId) (a0 : Nat → Nat) (N : Nat) (b : St) (x1 x2 : Int32) : MI l yX0_find wsX0_find ({ frames := 1, cells := 0, slots := 0, locals := 21 } : Room) D cI cZ (wX0 a0 cI cZ) [.ref (a0 0), .int x1, .int x2] b (f_X0_find N b x1 x2) := by
  refine MI.of (cc := cX0_find) (maxL := 5) (ret := (some .int)) (own := RX0) (by decide) rfl rfl (Nat.le_of_ble_eq_true rfl) ?_
  intro r u1 h p e s m args below meth c A C0 H locs ls hP hD hS hl
  obtain ⟨hx, hb, hml, hr, hown, hts, hlocks, hA, hK, hN⟩ := id C0
  have hl : lv_has ls 5 [(0, .ref (a0 0)), (1, .int x1), (2, .int x2)] := hl
  unfold f_X0_find at h
  refine lv_aload_n hx hb dX0_find_0 rfl (lv_at hl 0 rfl) ?_
  refine va_get (D := D) (ci := 0) (v := .ref (a0 6)) (C := RX0) (T := TX0) (N := 7) hx hb hts in_X0_find_X0 hown hK hP 0 rfl rfl 5 (by decide) (hts (.fieldLink RX0 27 "TermLoom$Bindings" "newest" "[I") (by decide +kernel)) (fun _ h9 => h9) rfl dX0_find_1 ?_
  refine lv_iload_n hx hb dX0_find_4 rfl (lv_at hl 1 rfl) ?_
  obtain ⟨q1, hq1, h⟩ := ob h
  refine mc_i (ws' := wX0 a0 cI cZ b) (wr := ((wX0o a0 cI cZ b) : va_W)) [] [0, 1, 2, 3, 4, 5, 6] [0, 1, 2, 3, 4, 5, 6] (va_runSN (As := [.int x1]) (rest := [.ref (a0 6)]) ⟨hx, hb, hml, hown, hts⟩ (c_X4_numberOf l D cI cZ N x1 q1.1 q1.2 hq1 H.size) ⟨va_cnB 1 hts gX0_find_X4_numberOf_n48 rfl rfl rfl (nw_X0_48 hN) (hts (.initialized RX4) (by decide +kernel)) (by decide +kernel) ⟨Nat.le_of_ble_eq_true rfl, Nat.le_of_ble_eq_true rfl⟩, hts (.static yX4_numberOf) (by decide +kernel), trivial⟩ (pS [] hP hD hK hN rfl rfl) rfl rfl hl.1 rfl (lv_room (Nat.le_of_ble_eq_true rfl)) dX0_find_5 ⟨Nat.le_of_ble_eq_true rfl, Nat.le_of_ble_eq_true rfl⟩) hP hD hS hA rfl rfl rfl (by decide) rfl rfl (fun H locs hP hD hS => ?_)
  obtain ⟨q2, hq2, h⟩ := ob h
  refine mc_i (ws' := wX0 a0 cI cZ b) (wr := ((wX0 a0 cI cZ b).eraseIdx 6)) [6] [0, 1, 2, 3, 4, 5] [0, 1, 2, 3, 4, 5, 6] (va_runSN (As := [.ref (a0 6), .int q1.1]) (rest := []) ⟨hx, hb, hml, hown, hts⟩ (c_X4_read l D cI cZ (a0 6) 1000 (b 5) N q1.1 q2.1 q2.2 hq2 H.size) ⟨va_cnB 2 hts gX0_find_X4_read_n40 rfl rfl rfl (nw_X0_40 hN) (hts (.initialized RX4) (by decide +kernel)) (by decide +kernel) ⟨Nat.le_of_ble_eq_true rfl, Nat.le_of_ble_eq_true rfl⟩, hts (.static yX4_read) (by decide +kernel), trivial⟩ (pS [6] hP hD hK hN rfl rfl) rfl rfl hl.1 rfl (lv_room (Nat.le_of_ble_eq_true rfl)) dX0_find_8 ⟨Nat.le_of_ble_eq_true rfl, Nat.le_of_ble_eq_true rfl⟩) hP hD hS hA rfl rfl rfl (by decide) rfl rfl (fun H locs hP hD hS => ?_)
  refine lv_istore_n (lv' := [(3, .int q2.1), (0, .ref (a0 0)), (1, .int x1), (2, .int x2)]) hx hb dX0_find_11 rfl hl (by decide) rfl (fun ls hl => ?_)
  refine lv_aload_n hx hb dX0_find_12 rfl (lv_at hl 1 rfl) ?_
  refine va_get (D := D) (ci := 0) (v := .int (b 6 0)) (C := RX0) (T := TX0) (N := 7) hx hb hts in_X0_find_X0 hown hK hP 0 rfl rfl 6 (by decide) (hts (.fieldLink RX0 36 "TermLoom$Bindings" "count" "I") (by decide +kernel)) (fun _ h9 => h9) rfl dX0_find_13 ?_
  refine lv_istore (lv' := [(4, .int (b 6 0)), (3, .int q2.1), (0, .ref (a0 0)), (1, .int x1), (2, .int x2)]) hx hb dX0_find_16 hl (by decide) rfl (fun ls hl => ?_)
  exact k_X0_find_18 C0 N N b x2 q2.1 (b 6 0) _ _ _ hP hD hS (lv_sub hl [2, 4, 1, 0] rfl) h

theorem in_X0_add_X0 : ∀ w ∈ u_ws RX0 TX0 7, w ∈ wsX0_add := by decide +kernel
def f_X0_add_17 (N : Nat) (b : St) : Option (St) := some b
def f_X0_add (N : Nat) (b : St) (x1 x2 x3 x4 : Int32) : Option (St) := if (b 6 0) < 0 then f_X0_add_17 N b else if (b 6 0) < 2000 then if (b 6 0) < 0 ∨ 2000 ≤ ((b 6 0)).toNatClampNeg then none else bnd (up2 b 0 ((b 6 0)).toNatClampNeg x1) (fun b3 => if (b3 6 0) < 0 ∨ 2000 ≤ ((b3 6 0)).toNatClampNeg then none else bnd (up2 b3 1 ((b3 6 0)).toNatClampNeg x2) (fun b4 => if (b4 6 0) < 0 ∨ 2000 ≤ ((b4 6 0)).toNatClampNeg then none else bnd (up2 b4 2 ((b4 6 0)).toNatClampNeg x3) (fun b5 => if (b5 6 0) < 0 ∨ 2000 ≤ ((b5 6 0)).toNatClampNeg then none else bnd (up2 b5 3 ((b5 6 0)).toNatClampNeg x4) (fun b6 => (f_X4_numberOf N x1).bind (fun q7 => (f_X4_read N 1000 (b6 5) q7.1).bind (fun q8 => if (b6 6 0) < 0 ∨ 2000 ≤ ((b6 6 0)).toNatClampNeg then none else bnd (up2 b6 4 ((b6 6 0)).toNatClampNeg q8.1) (fun b9 => (f_X0_setNewest N b9 x1 (b9 6 0)).bind (fun q10 => bnd (up2 q10 6 0 ((q10 6 0) + 1)) (fun b11 => some b11))))))))) else f_X0_add_17 N b
abbrev KP_X0_add_17 (p : Program) (l : Launch) (e : Env) (s : State) (m : MethodId) (args : Array Value) (below : List Frame) (meth : Method) (c : Code) (D : va_G) (cI cZ : ClassId) (a0 : Nat → Nat) (A : Nat → Prop) (u1 : St) (K : St → Option (St)) : Prop := ∀ (b : St) (H : Heap) (locs : List Loc) (ls : Array Slot), va_P D vwCl (wX0 a0 cI cZ b) H → va_D A (wX0 a0 cI cZ b) → va_S A s.heap H locs → lv_has ls 5 [] → K b = some u1 → W p l e ({ frames := 2, cells := 0, slots := 0, locals := 43 } : Room) s m args below meth c H locs 0 0 (QV below args s D cI cZ (wX0 a0 cI cZ) A u1) (F0 m 17 ls [])
set_option maxHeartbeats 4000000 in
set_option maxRecDepth 100000 in
theorem k_X0_add_17 {p : Program} {l : Launch} {e : Env} {s : State} {m : MethodId} {args : Array Value} {below : List Frame} {meth : Method} {c : Code} {D : va_G} {cI cZ : ClassId} {a0 : Nat → Nat} {A : Nat → Prop} {u1 : St} (C0 : mB p s m args meth c D cI cZ A cX0_add 5 none wsX0_add RX0) (N : Nat) : KP_X0_add_17 p l e s m args below meth c D cI cZ a0 A u1 (f_X0_add_17 N) := by
  obtain ⟨hx, hb, hml, hr, hown, hts, hlocks, hA, hK, hN⟩ := id C0
  intro b H locs ls hP hD hS hl h
  unfold f_X0_add_17 at h
  obtain rfl := so1 h
  exact ret_v C0 hP hD hS dX0_add_17
set_option maxHeartbeats 4000000 in
set_option maxRecDepth 100000 in
theorem c_X0_add (l : Launch) (D : va_G) (cI cZ : ClassId) (a0 : Nat → Nat) (N : Nat) (b : St) (x1 x2 x3 x4 : Int32) : MV l yX0_add wsX0_add ({ frames := 2, cells := 0, slots := 0, locals := 43 } : Room) D cI cZ (wX0 a0 cI cZ) [.ref (a0 0), .int x1, .int x2, .int x3, .int x4] b (f_X0_add N b x1 x2 x3 x4) := by
  refine MV.of (cc := cX0_add) (maxL := 5) (ret := none) (own := RX0) (by decide) rfl rfl (Nat.le_of_ble_eq_true rfl) ?_
  intro u1 h p e s m args below meth c A C0 H locs ls hP hD hS hl
  obtain ⟨hx, hb, hml, hr, hown, hts, hlocks, hA, hK, hN⟩ := id C0
  have hl : lv_has ls 5 [(0, .ref (a0 0)), (1, .int x1), (2, .int x2), (3, .int x3), (4, .int x4)] := hl
  unfold f_X0_add at h
  refine lv_aload_n hx hb dX0_add_0 rfl (lv_at hl 0 rfl) ?_
  refine va_get (D := D) (ci := 0) (v := .int (b 6 0)) (C := RX0) (T := TX0) (N := 7) hx hb hts in_X0_add_X0 hown hK hP 0 rfl rfl 6 (by decide) (hts (.fieldLink RX0 36 "TermLoom$Bindings" "count" "I") (by decide +kernel)) (fun _ h9 => h9) rfl dX0_add_1 ?_
  refine lv_if_lt (tgt := 17) hx hb dX0_add_4 (by decide) (fun hc1 => ?_) (fun hc1 => ?_)
  · rw [if_pos hc1] at h
    exact k_X0_add_17 C0 N b _ _ _ hP hD hS (lv_sub hl [] rfl) h
  · rw [if_neg hc1] at h
    refine lv_aload_n hx hb dX0_add_7 rfl (lv_at hl 0 rfl) ?_
    refine va_get (D := D) (ci := 0) (v := .int (b 6 0)) (C := RX0) (T := TX0) (N := 7) hx hb hts in_X0_add_X0 hown hK hP 0 rfl rfl 6 (by decide) (hts (.fieldLink RX0 36 "TermLoom$Bindings" "count" "I") (by decide +kernel)) (fun _ h9 => h9) rfl dX0_add_8 ?_
    refine lv_sipush (v := 2000) hx hb dX0_add_11 rfl ?_
    refine lv_icmp_lt (tgt := 18) hx hb dX0_add_14 (by decide) (fun hc2 => ?_) (fun hc2 => ?_)
    · rw [if_pos hc2] at h
      refine lv_aload_n hx hb dX0_add_18 rfl (lv_at hl 0 rfl) ?_
      refine va_get (D := D) (ci := 0) (v := .ref (a0 1)) (C := RX0) (T := TX0) (N := 7) hx hb hts in_X0_add_X0 hown hK hP 0 rfl rfl 0 (by decide) (hts (.fieldLink RX0 9 "TermLoom$Bindings" "codes" "[I") (by decide +kernel)) (fun _ h9 => h9) rfl dX0_add_19 ?_
      refine lv_aload_n hx hb dX0_add_22 rfl (lv_at hl 0 rfl) ?_
      refine va_get (D := D) (ci := 0) (v := .int (b 6 0)) (C := RX0) (T := TX0) (N := 7) hx hb hts in_X0_add_X0 hown hK hP 0 rfl rfl 6 (by decide) (hts (.fieldLink RX0 36 "TermLoom$Bindings" "count" "I") (by decide +kernel)) (fun _ h9 => h9) rfl dX0_add_23 ?_
      refine lv_iload_n hx hb dX0_add_26 rfl (lv_at hl 1 rfl) ?_
      by_cases hi : (b 6 0) < 0 ∨ 2000 ≤ ((b 6 0)).toNatClampNeg
      · rw [if_pos hi] at h; exact no h
      rw [if_neg hi] at h
      refine va_iast (f := (b 0)) hx hb hK hP hD hS 1 0 rfl rfl (i := (b 6 0)) (x := x1) hi dX0_add_27 (fun H locs hP hD hS => ?_)
      obtain ⟨b3, eb3, h⟩ := bn h
      have hP : va_P D vwCl (wX0 a0 cI cZ b3) H := by rw [eb3]; exact hP
      have hD : va_D A (wX0 a0 cI cZ b3) := by rw [eb3]; exact hD
      refine lv_aload_n hx hb dX0_add_28 rfl (lv_at hl 0 rfl) ?_
      refine va_get (D := D) (ci := 0) (v := .ref (a0 2)) (C := RX0) (T := TX0) (N := 7) hx hb hts in_X0_add_X0 hown hK hP 0 rfl rfl 1 (by decide) (hts (.fieldLink RX0 15 "TermLoom$Bindings" "variableTypes" "[I") (by decide +kernel)) (fun _ h9 => h9) rfl dX0_add_29 ?_
      refine lv_aload_n hx hb dX0_add_32 rfl (lv_at hl 0 rfl) ?_
      refine va_get (D := D) (ci := 0) (v := .int (b3 6 0)) (C := RX0) (T := TX0) (N := 7) hx hb hts in_X0_add_X0 hown hK hP 0 rfl rfl 6 (by decide) (hts (.fieldLink RX0 36 "TermLoom$Bindings" "count" "I") (by decide +kernel)) (fun _ h9 => h9) rfl dX0_add_33 ?_
      refine lv_iload_n hx hb dX0_add_36 rfl (lv_at hl 2 rfl) ?_
      by_cases hi : (b3 6 0) < 0 ∨ 2000 ≤ ((b3 6 0)).toNatClampNeg
      · rw [if_pos hi] at h; exact no h
      rw [if_neg hi] at h
      refine va_iast (f := (b3 1)) hx hb hK hP hD hS 2 0 rfl rfl (i := (b3 6 0)) (x := x2) hi dX0_add_37 (fun H locs hP hD hS => ?_)
      obtain ⟨b4, eb4, h⟩ := bn h
      have hP : va_P D vwCl (wX0 a0 cI cZ b4) H := by rw [eb4]; exact hP
      have hD : va_D A (wX0 a0 cI cZ b4) := by rw [eb4]; exact hD
      refine lv_aload_n hx hb dX0_add_38 rfl (lv_at hl 0 rfl) ?_
      refine va_get (D := D) (ci := 0) (v := .ref (a0 3)) (C := RX0) (T := TX0) (N := 7) hx hb hts in_X0_add_X0 hown hK hP 0 rfl rfl 2 (by decide) (hts (.fieldLink RX0 18 "TermLoom$Bindings" "froms" "[I") (by decide +kernel)) (fun _ h9 => h9) rfl dX0_add_39 ?_
      refine lv_aload_n hx hb dX0_add_42 rfl (lv_at hl 0 rfl) ?_
      refine va_get (D := D) (ci := 0) (v := .int (b4 6 0)) (C := RX0) (T := TX0) (N := 7) hx hb hts in_X0_add_X0 hown hK hP 0 rfl rfl 6 (by decide) (hts (.fieldLink RX0 36 "TermLoom$Bindings" "count" "I") (by decide +kernel)) (fun _ h9 => h9) rfl dX0_add_43 ?_
      refine lv_iload_n hx hb dX0_add_46 rfl (lv_at hl 3 rfl) ?_
      by_cases hi : (b4 6 0) < 0 ∨ 2000 ≤ ((b4 6 0)).toNatClampNeg
      · rw [if_pos hi] at h; exact no h
      rw [if_neg hi] at h
      refine va_iast (f := (b4 2)) hx hb hK hP hD hS 3 0 rfl rfl (i := (b4 6 0)) (x := x3) hi dX0_add_47 (fun H locs hP hD hS => ?_)
      obtain ⟨b5, eb5, h⟩ := bn h
      have hP : va_P D vwCl (wX0 a0 cI cZ b5) H := by rw [eb5]; exact hP
      have hD : va_D A (wX0 a0 cI cZ b5) := by rw [eb5]; exact hD
      refine lv_aload_n hx hb dX0_add_48 rfl (lv_at hl 0 rfl) ?_
      refine va_get (D := D) (ci := 0) (v := .ref (a0 4)) (C := RX0) (T := TX0) (N := 7) hx hb hts in_X0_add_X0 hown hK hP 0 rfl rfl 3 (by decide) (hts (.fieldLink RX0 21 "TermLoom$Bindings" "ends" "[I") (by decide +kernel)) (fun _ h9 => h9) rfl dX0_add_49 ?_
      refine lv_aload_n hx hb dX0_add_52 rfl (lv_at hl 0 rfl) ?_
      refine va_get (D := D) (ci := 0) (v := .int (b5 6 0)) (C := RX0) (T := TX0) (N := 7) hx hb hts in_X0_add_X0 hown hK hP 0 rfl rfl 6 (by decide) (hts (.fieldLink RX0 36 "TermLoom$Bindings" "count" "I") (by decide +kernel)) (fun _ h9 => h9) rfl dX0_add_53 ?_
      refine lv_iload hx hb dX0_add_56 (lv_at hl 4 rfl) ?_
      by_cases hi : (b5 6 0) < 0 ∨ 2000 ≤ ((b5 6 0)).toNatClampNeg
      · rw [if_pos hi] at h; exact no h
      rw [if_neg hi] at h
      refine va_iast (f := (b5 3)) hx hb hK hP hD hS 4 0 rfl rfl (i := (b5 6 0)) (x := x4) hi dX0_add_58 (fun H locs hP hD hS => ?_)
      obtain ⟨b6, eb6, h⟩ := bn h
      have hP : va_P D vwCl (wX0 a0 cI cZ b6) H := by rw [eb6]; exact hP
      have hD : va_D A (wX0 a0 cI cZ b6) := by rw [eb6]; exact hD
      refine lv_aload_n hx hb dX0_add_59 rfl (lv_at hl 0 rfl) ?_
      refine va_get (D := D) (ci := 0) (v := .ref (a0 5)) (C := RX0) (T := TX0) (N := 7) hx hb hts in_X0_add_X0 hown hK hP 0 rfl rfl 4 (by decide) (hts (.fieldLink RX0 24 "TermLoom$Bindings" "older" "[I") (by decide +kernel)) (fun _ h9 => h9) rfl dX0_add_60 ?_
      refine lv_aload_n hx hb dX0_add_63 rfl (lv_at hl 0 rfl) ?_
      refine va_get (D := D) (ci := 0) (v := .int (b6 6 0)) (C := RX0) (T := TX0) (N := 7) hx hb hts in_X0_add_X0 hown hK hP 0 rfl rfl 6 (by decide) (hts (.fieldLink RX0 36 "TermLoom$Bindings" "count" "I") (by decide +kernel)) (fun _ h9 => h9) rfl dX0_add_64 ?_
      refine lv_aload_n hx hb dX0_add_67 rfl (lv_at hl 0 rfl) ?_
      refine va_get (D := D) (ci := 0) (v := .ref (a0 6)) (C := RX0) (T := TX0) (N := 7) hx hb hts in_X0_add_X0 hown hK hP 0 rfl rfl 5 (by decide) (hts (.fieldLink RX0 27 "TermLoom$Bindings" "newest" "[I") (by decide +kernel)) (fun _ h9 => h9) rfl dX0_add_68 ?_
      refine lv_iload_n hx hb dX0_add_71 rfl (lv_at hl 1 rfl) ?_
      obtain ⟨q7, hq7, h⟩ := ob h
      refine mc_i (ws' := wX0 a0 cI cZ b6) (wr := ((wX0o a0 cI cZ b6) : va_W)) [] [0, 1, 2, 3, 4, 5, 6] [0, 1, 2, 3, 4, 5, 6] (va_runSN (As := [.int x1]) (rest := [.ref (a0 6), .int (b6 6 0), .ref (a0 5)]) ⟨hx, hb, hml, hown, hts⟩ (c_X4_numberOf l D cI cZ N x1 q7.1 q7.2 hq7 H.size) ⟨va_cnB 1 hts gX0_add_X4_numberOf_n48 rfl rfl rfl (nw_X0_48 hN) (hts (.initialized RX4) (by decide +kernel)) (by decide +kernel) ⟨Nat.le_of_ble_eq_true rfl, Nat.le_of_ble_eq_true rfl⟩, hts (.static yX4_numberOf) (by decide +kernel), trivial⟩ (pS [] hP hD hK hN rfl rfl) rfl rfl hl.1 rfl (lv_room (Nat.le_of_ble_eq_true rfl)) dX0_add_72 ⟨Nat.le_of_ble_eq_true rfl, Nat.le_of_ble_eq_true rfl⟩) hP hD hS hA rfl rfl rfl (by decide) rfl rfl (fun H locs hP hD hS => ?_)
      obtain ⟨q8, hq8, h⟩ := ob h
      refine mc_i (ws' := wX0 a0 cI cZ b6) (wr := ((wX0 a0 cI cZ b6).eraseIdx 6)) [6] [0, 1, 2, 3, 4, 5] [0, 1, 2, 3, 4, 5, 6] (va_runSN (As := [.ref (a0 6), .int q7.1]) (rest := [.int (b6 6 0), .ref (a0 5)]) ⟨hx, hb, hml, hown, hts⟩ (c_X4_read l D cI cZ (a0 6) 1000 (b6 5) N q7.1 q8.1 q8.2 hq8 H.size) ⟨va_cnB 2 hts gX0_add_X4_read_n40 rfl rfl rfl (nw_X0_40 hN) (hts (.initialized RX4) (by decide +kernel)) (by decide +kernel) ⟨Nat.le_of_ble_eq_true rfl, Nat.le_of_ble_eq_true rfl⟩, hts (.static yX4_read) (by decide +kernel), trivial⟩ (pS [6] hP hD hK hN rfl rfl) rfl rfl hl.1 rfl (lv_room (Nat.le_of_ble_eq_true rfl)) dX0_add_75 ⟨Nat.le_of_ble_eq_true rfl, Nat.le_of_ble_eq_true rfl⟩) hP hD hS hA rfl rfl rfl (by decide) rfl rfl (fun H locs hP hD hS => ?_)
      by_cases hi : (b6 6 0) < 0 ∨ 2000 ≤ ((b6 6 0)).toNatClampNeg
      · rw [if_pos hi] at h; exact no h
      rw [if_neg hi] at h
      refine va_iast (f := (b6 4)) hx hb hK hP hD hS 5 0 rfl rfl (i := (b6 6 0)) (x := q8.1) hi dX0_add_78 (fun H locs hP hD hS => ?_)
      obtain ⟨b9, eb9, h⟩ := bn h
      have hP : va_P D vwCl (wX0 a0 cI cZ b9) H := by rw [eb9]; exact hP
      have hD : va_D A (wX0 a0 cI cZ b9) := by rw [eb9]; exact hD
      refine lv_aload_n hx hb dX0_add_79 rfl (lv_at hl 0 rfl) ?_
      refine lv_iload_n hx hb dX0_add_80 rfl (lv_at hl 1 rfl) ?_
      refine lv_aload_n hx hb dX0_add_81 rfl (lv_at hl 0 rfl) ?_
      refine va_get (D := D) (ci := 0) (v := .int (b9 6 0)) (C := RX0) (T := TX0) (N := 7) hx hb hts in_X0_add_X0 hown hK hP 0 rfl rfl 6 (by decide) (hts (.fieldLink RX0 36 "TermLoom$Bindings" "count" "I") (by decide +kernel)) (fun _ h9 => h9) rfl dX0_add_82 ?_
      obtain ⟨q10, hq10, h⟩ := ob h
      refine mc_v (ws' := wX0 a0 cI cZ q10) (wr := ([] : va_W)) [0, 1, 2, 3, 4, 5, 6] [] [0, 1, 2, 3, 4, 5, 6] (va_runV (As := [.int x1, .int (b9 6 0)]) (rest := []) ⟨hx, hb, hml, hown, hts⟩ (c_X0_setNewest l D cI cZ a0 N b9 x1 (b9 6 0) q10 hq10 H.size) (cwV 2 hts gX0_add_X0_setNewest rfl rfl rfl (by decide +kernel) ⟨Nat.le_of_ble_eq_true rfl, Nat.le_of_ble_eq_true rfl⟩) (pV [0, 1, 2, 3, 4, 5, 6] hP hD hK hN rfl rfl rfl rfl) rfl rfl hl.1 rfl (lv_room (Nat.le_of_ble_eq_true rfl)) dX0_add_85 ⟨Nat.le_of_ble_eq_true rfl, Nat.le_of_ble_eq_true rfl⟩) hP hD hS hA rfl rfl rfl (by decide) rfl rfl (fun H locs hP hD hS => ?_)
      refine lv_aload_n hx hb dX0_add_88 rfl (lv_at hl 0 rfl) ?_
      refine lv_dup hx hb dX0_add_89 rfl ?_
      refine va_get (D := D) (ci := 0) (v := .int (q10 6 0)) (C := RX0) (T := TX0) (N := 7) hx hb hts in_X0_add_X0 hown hK hP 0 rfl rfl 6 (by decide) (hts (.fieldLink RX0 36 "TermLoom$Bindings" "count" "I") (by decide +kernel)) (fun _ h9 => h9) rfl dX0_add_90 ?_
      refine lv_iconst (v := 1) hx hb dX0_add_93 rfl ?_
      refine lv_iadd hx hb dX0_add_94 ?_
      refine va_put (D := D) (ci := 0) (v := .int ((q10 6 0) + 1)) (ty := .int) (C := RX0) (T := TX0) (N := 7) hx hb hts in_X0_add_X0 tyX0 tyX0_ok nmX0 hown hK hP hD hS 0 rfl rfl 6 (by decide) (hts (.fieldLink RX0 36 "TermLoom$Bindings" "count" "I") (by decide +kernel)) (fun _ h9 => h9) rfl (by decide +kernel) rfl rfl (Nat.le_of_ble_eq_true rfl) dX0_add_95 (fun H locs hP hD hS => ?_)
      obtain ⟨b11, eb11, h⟩ := bn h
      have hP : va_P D vwCl (wX0 a0 cI cZ b11) H := by rw [eb11]; exact hP
      have hD : va_D A (wX0 a0 cI cZ b11) := by rw [eb11]; exact hD
      obtain rfl := so1 h
      exact ret_v C0 hP hD hS dX0_add_98
    · rw [if_neg hc2] at h
      exact k_X0_add_17 C0 N b _ _ _ hP hD hS (lv_sub hl [] rfl) h
