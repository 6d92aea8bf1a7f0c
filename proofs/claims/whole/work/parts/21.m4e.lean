theorem in_X4_behindFitting_X4 : ∀ w ∈ u_ws RX4 TX4 7, w ∈ wsX4_behindFitting := by decide +kernel
def f_X4_behindFitting_130 (N : Nat) (x y t k b : St) (s0 : Int32) : Option (Int32 × (St × St × St × St × St)) := some (s0, (x, y, t, k, b))
def f_X4_behindFitting_118 (N : Nat) (x y t k b : St) (x2 x6 : Int32) : Option (Int32 × (St × St × St × St × St)) := if x6 = 0 then f_X4_behindFitting_130 N x y t k b (-1) else f_X4_behindFitting_130 N x y t k b (x2 + 1)
def f_X4_behindFitting (N : Nat) (x y t k b : St) (x1 x2 : Int32) : Option (Int32 × (St × St × St × St × St)) := (f_X1_code N t k x1).bind (fun q1 => (f_X4_isOf N 1 q1.1).bind (fun q2 => if q2.1 = 0 then (f_X1_code N q1.2.1 q1.2.2 x2).bind (fun q4 => if q1.1 = q4.1 then (f_X1_symbolType N q4.2.1 q4.2.2 x1).bind (fun q6 => (f_X1_symbolType N q6.2.1 q6.2.2 x2).bind (fun q7 => if q1.1 = (-2) then (f_X2_first N y q6.1).bind (fun q12 => (f_X2_first N q12.2 q7.1).bind (fun q13 => (f_X2_fits N q13.2 q12.1 q13.1).bind (fun q14 => f_X4_behindFitting_118 N x q14.2 q7.2.1 q7.2.2 b x2 q14.1))) else (f_X4_isOf N 2 q1.1).bind (fun q9 => if q9.1 = 0 then f_X4_behindFitting_118 N x y q7.2.1 q7.2.2 b x2 1 else (f_X2_fits N y q6.1 q7.1).bind (fun q11 => f_X4_behindFitting_118 N x q11.2 q7.2.1 q7.2.2 b x2 q11.1)))) else some ((-1), (x, y, q4.2.1, q4.2.2, b))) else (f_X4_behindBinding N x y q1.2.1 q1.2.2 b x1 x2).bind (fun q15 => some (q15.1, (q15.2.1, q15.2.2.1, q15.2.2.2.1, q15.2.2.2.2.1, q15.2.2.2.2.2)))))
abbrev KP_X4_behindFitting_130 (p : Program) (l : Launch) (e : Env) (s : State) (m : MethodId) (args : Array Value) (below : List Frame) (meth : Method) (c : Code) (D : va_G) (cI cZ : ClassId) (a4 a2 a1 a3 a0 : Nat → Nat) (A : Nat → Prop) (r : Int32) (u1 : St × St × St × St × St) (K : St → St → St → St → St → Int32 → Option (Int32 × (St × St × St × St × St))) : Prop := ∀ (x y t k b : St) (s0 : Int32) (H : Heap) (locs : List Loc) (ls : Array Slot), va_P D vwCl (wX4 a4 a2 a1 a3 a0 cI cZ (x, y, t, k, b)) H → va_D A (wX4 a4 a2 a1 a3 a0 cI cZ (x, y, t, k, b)) → va_S A s.heap H locs → lv_has ls 7 [] → K x y t k b s0 = some (r, u1) → W p l e ({ frames := 129, cells := 0, slots := 0, locals := 5073 } : Room) s m args below meth c H locs 0 0 (QI below args s D cI cZ (wX4 a4 a2 a1 a3 a0 cI cZ) A r u1) (F0 m 130 ls [.int s0])
abbrev KP_X4_behindFitting_118 (p : Program) (l : Launch) (e : Env) (s : State) (m : MethodId) (args : Array Value) (below : List Frame) (meth : Method) (c : Code) (D : va_G) (cI cZ : ClassId) (a4 a2 a1 a3 a0 : Nat → Nat) (A : Nat → Prop) (r : Int32) (u1 : St × St × St × St × St) (K : St → St → St → St → St → Int32 → Int32 → Option (Int32 × (St × St × St × St × St))) : Prop := ∀ (x y t k b : St) (x2 x6 : Int32) (H : Heap) (locs : List Loc) (ls : Array Slot), va_P D vwCl (wX4 a4 a2 a1 a3 a0 cI cZ (x, y, t, k, b)) H → va_D A (wX4 a4 a2 a1 a3 a0 cI cZ (x, y, t, k, b)) → va_S A s.heap H locs → lv_has ls 7 [(2, .int x2), (6, .int x6)] → K x y t k b x2 x6 = some (r, u1) → W p l e ({ frames := 129, cells := 0, slots := 0, locals := 5073 } : Room) s m args below meth c H locs 0 0 (QI below args s D cI cZ (wX4 a4 a2 a1 a3 a0 cI cZ) A r u1) (F0 m 118 ls [])
set_option maxHeartbeats 4000000 in
set_option maxRecDepth 100000 in
theorem k_X4_behindFitting_130 {p : Program} {l : Launch} {e : Env} {s : State} {m : MethodId} {args : Array Value} {below : List Frame} {meth : Method} {c : Code} {D : va_G} {cI cZ : ClassId} {a4 a2 a1 a3 a0 : Nat → Nat} {A : Nat → Prop} {r : Int32} {u1 : St × St × St × St × St} (C0 : mB p s m args meth c D cI cZ A cX4_behindFitting 7 (some .int) wsX4_behindFitting RX4) (N : Nat) : KP_X4_behindFitting_130 p l e s m args below meth c D cI cZ a4 a2 a1 a3 a0 A r u1 (f_X4_behindFitting_130 N) := by
  obtain ⟨hx, hb, hml, hr, hown, hts, hlocks, hA, hK, hN⟩ := id C0
  intro x y t k b s0 H locs ls hP hD hS hl h
  unfold f_X4_behindFitting_130 at h
  obtain ⟨rfl, rfl⟩ := so h
  exact ret_i C0 hP hD hS dX4_behindFitting_130
set_option maxHeartbeats 4000000 in
set_option maxRecDepth 100000 in
theorem k_X4_behindFitting_118 {p : Program} {l : Launch} {e : Env} {s : State} {m : MethodId} {args : Array Value} {below : List Frame} {meth : Method} {c : Code} {D : va_G} {cI cZ : ClassId} {a4 a2 a1 a3 a0 : Nat → Nat} {A : Nat → Prop} {r : Int32} {u1 : St × St × St × St × St} (C0 : mB p s m args meth c D cI cZ A cX4_behindFitting 7 (some .int) wsX4_behindFitting RX4) (N : Nat) : KP_X4_behindFitting_118 p l e s m args below meth c D cI cZ a4 a2 a1 a3 a0 A r u1 (f_X4_behindFitting_118 N) := by
  obtain ⟨hx, hb, hml, hr, hown, hts, hlocks, hA, hK, hN⟩ := id C0
  intro x y t k b x2 x6 H locs ls hP hD hS hl h
  unfold f_X4_behindFitting_118 at h
  refine lv_iload hx hb dX4_behindFitting_118 (lv_at hl 1 rfl) ?_
  refine lv_if_eq (tgt := 129) hx hb dX4_behindFitting_120 (by decide) (fun hc1 => ?_) (fun hc1 => ?_)
  · rw [if_pos hc1] at h
    refine lv_iconst (v := (-1)) hx hb dX4_behindFitting_129 rfl ?_
    exact k_X4_behindFitting_130 C0 N x y t k b (-1) _ _ _ hP hD hS (lv_sub hl [] rfl) h
  · rw [if_neg hc1] at h
    refine lv_iload_n hx hb dX4_behindFitting_123 rfl (lv_at hl 0 rfl) ?_
    refine lv_iconst (v := 1) hx hb dX4_behindFitting_124 rfl ?_
    refine lv_iadd hx hb dX4_behindFitting_125 ?_
    refine lv_goto (tgt := 130) hx hb dX4_behindFitting_126 (by decide) ?_
    exact k_X4_behindFitting_130 C0 N x y t k b (x2 + 1) _ _ _ hP hD hS (lv_sub hl [] rfl) h
set_option maxHeartbeats 4000000 in
set_option maxRecDepth 100000 in
theorem c_X4_behindFitting (l : Launch) (D : va_G) (cI cZ : ClassId) (a4 a2 a1 a3 a0 : Nat → Nat) (N : Nat) (x y t k b : St) (x1 x2 : Int32) : MI l yX4_behindFitting wsX4_behindFitting ({ frames := 129, cells := 0, slots := 0, locals := 5073 } : Room) D cI cZ (wX4 a4 a2 a1 a3 a0 cI cZ) [.ref (a4 0), .int x1, .int x2] (x, y, t, k, b) (f_X4_behindFitting N x y t k b x1 x2) := by
  refine MI.of (cc := cX4_behindFitting) (maxL := 7) (ret := (some .int)) (own := RX4) (by decide) rfl rfl (Nat.le_of_ble_eq_true rfl) ?_
  intro r u1 h p e s m args below meth c A C0 H locs ls hP hD hS hl
  obtain ⟨hx, hb, hml, hr, hown, hts, hlocks, hA, hK, hN⟩ := id C0
  have hl : lv_has ls 7 [(0, .ref (a4 0)), (1, .int x1), (2, .int x2)] := hl
  unfold f_X4_behindFitting at h
  refine lv_aload_n hx hb dX4_behindFitting_0 rfl (lv_at hl 0 rfl) ?_
  refine va_get (D := D) (ci := 4) (v := .ref (a1 0)) (C := RX4) (T := TX4) (N := 7) hx hb hts in_X4_behindFitting_X4 hown hK hP 0 rfl rfl 1 (by decide) (hts (.fieldLink RX4 19 "TermLoom" "terms" "LTermLoom$TermStore;") (by decide +kernel)) (fun _ h9 => h9) rfl dX4_behindFitting_1 ?_
  refine lv_iload_n hx hb dX4_behindFitting_4 rfl (lv_at hl 1 rfl) ?_
  obtain ⟨q1, hq1, h⟩ := ob h
  refine mc_i (ws' := wX4 a4 a2 a1 a3 a0 cI cZ (x, y, q1.2.1, q1.2.2, b)) (wr := ((wX4o a4 a2 a1 a0 cI cZ x) ++ (wX2o a2 cI cZ y) ++ (wX0o a0 cI cZ b) : va_W)) [14, 15, 16, 17, 18, 19, 20, 21] [0, 1, 2, 3, 4, 5, 6, 7, 8, 9, 10, 11, 12, 13, 22, 23, 24, 25, 26, 27, 28] [0, 1, 2, 3, 4, 5, 6, 7, 8, 9, 10, 11, 12, 13, 21, 22, 23, 24, 25, 26, 27, 28, 14, 15, 16, 17, 18, 19, 20] (va_runV (As := [.int x1]) (rest := []) ⟨hx, hb, hml, hown, hts⟩ (c_X1_code l D cI cZ a1 a3 N t k x1 q1.1 q1.2 hq1 H.size) (cwV 1 hts gX4_behindFitting_X1_code rfl rfl rfl (by decide +kernel) ⟨Nat.le_of_ble_eq_true rfl, Nat.le_of_ble_eq_true rfl⟩) (pV [14, 15, 16, 17, 18, 19, 20, 21] hP hD hK hN rfl rfl rfl rfl) rfl rfl hl.1 rfl (lv_room (Nat.le_of_ble_eq_true rfl)) dX4_behindFitting_5 ⟨Nat.le_of_ble_eq_true rfl, Nat.le_of_ble_eq_true rfl⟩) hP hD hS hA rfl rfl rfl (by decide) rfl rfl (fun H locs hP hD hS => ?_)
  refine lv_istore_n (lv' := [(3, .int q1.1), (0, .ref (a4 0)), (1, .int x1), (2, .int x2)]) hx hb dX4_behindFitting_8 rfl hl (by decide) rfl (fun ls hl => ?_)
  refine lv_iconst (v := 1) hx hb dX4_behindFitting_9 rfl ?_
  refine lv_iload_n hx hb dX4_behindFitting_10 rfl (lv_at hl 0 rfl) ?_
  obtain ⟨q2, hq2, h⟩ := ob h
  refine mc_i (ws' := wX4 a4 a2 a1 a3 a0 cI cZ (x, y, q1.2.1, q1.2.2, b)) (wr := ((wX4o a4 a2 a1 a0 cI cZ x) ++ (wX2o a2 cI cZ y) ++ (wX1o a1 a3 cI cZ q1.2.1) ++ (wX3o a3 cI cZ q1.2.2) ++ (wX0o a0 cI cZ b) : va_W)) [] [0, 1, 2, 3, 4, 5, 6, 7, 8, 9, 10, 11, 12, 13, 14, 15, 16, 17, 18, 19, 20, 21, 22, 23, 24, 25, 26, 27, 28] [0, 1, 2, 3, 4, 5, 6, 7, 8, 9, 10, 11, 12, 13, 14, 15, 16, 17, 18, 19, 20, 21, 22, 23, 24, 25, 26, 27, 28] (va_runS (As := [.int 1, .int q1.1]) (rest := []) ⟨hx, hb, hml, hown, hts⟩ (c_X4_isOf l D cI cZ N 1 q1.1 q2.1 q2.2 hq2 H.size) (va_cwS 2 hts gX4_behindFitting_X4_isOf rfl rfl rfl (by decide +kernel) ⟨Nat.le_of_ble_eq_true rfl, Nat.le_of_ble_eq_true rfl⟩) (pS [] hP hD hK hN rfl rfl) rfl rfl hl.1 rfl (lv_room (Nat.le_of_ble_eq_true rfl)) dX4_behindFitting_11 ⟨Nat.le_of_ble_eq_true rfl, Nat.le_of_ble_eq_true rfl⟩) hP hD hS hA rfl rfl rfl (by decide) rfl rfl (fun H locs hP hD hS => ?_)
  refine lv_if_eq (tgt := 24) hx hb dX4_behindFitting_14 (by decide) (fun hc3 => ?_) (fun hc3 => ?_)
  · rw [if_pos hc3] at h
    refine lv_iload_n hx hb dX4_behindFitting_24 rfl (lv_at hl 0 rfl) ?_
    refine lv_aload_n hx hb dX4_behindFitting_25 rfl (lv_at hl 1 rfl) ?_
    refine va_get (D := D) (ci := 4) (v := .ref (a1 0)) (C := RX4) (T := TX4) (N := 7) hx hb hts in_X4_behindFitting_X4 hown hK hP 0 rfl rfl 1 (by decide) (hts (.fieldLink RX4 19 "TermLoom" "terms" "LTermLoom$TermStore;") (by decide +kernel)) (fun _ h9 => h9) rfl dX4_behindFitting_26 ?_
    refine lv_iload_n hx hb dX4_behindFitting_29 rfl (lv_at hl 3 rfl) ?_
    obtain ⟨q4, hq4, h⟩ := ob h
    refine mc_i (ws' := wX4 a4 a2 a1 a3 a0 cI cZ (x, y, q4.2.1, q4.2.2, b)) (wr := ((wX4o a4 a2 a1 a0 cI cZ x) ++ (wX2o a2 cI cZ y) ++ (wX0o a0 cI cZ b) : va_W)) [14, 15, 16, 17, 18, 19, 20, 21] [0, 1, 2, 3, 4, 5, 6, 7, 8, 9, 10, 11, 12, 13, 22, 23, 24, 25, 26, 27, 28] [0, 1, 2, 3, 4, 5, 6, 7, 8, 9, 10, 11, 12, 13, 21, 22, 23, 24, 25, 26, 27, 28, 14, 15, 16, 17, 18, 19, 20] (va_runV (As := [.int x2]) (rest := [.int q1.1]) ⟨hx, hb, hml, hown, hts⟩ (c_X1_code l D cI cZ a1 a3 N q1.2.1 q1.2.2 x2 q4.1 q4.2 hq4 H.size) (cwV 1 hts gX4_behindFitting_X1_code rfl rfl rfl (by decide +kernel) ⟨Nat.le_of_ble_eq_true rfl, Nat.le_of_ble_eq_true rfl⟩) (pV [14, 15, 16, 17, 18, 19, 20, 21] hP hD hK hN rfl rfl rfl rfl) rfl rfl hl.1 rfl (lv_room (Nat.le_of_ble_eq_true rfl)) dX4_behindFitting_30 ⟨Nat.le_of_ble_eq_true rfl, Nat.le_of_ble_eq_true rfl⟩) hP hD hS hA rfl rfl rfl (by decide) rfl rfl (fun H locs hP hD hS => ?_)
    refine lv_icmp_eq (tgt := 38) hx hb dX4_behindFitting_33 (by decide) (fun hc5 => ?_) (fun hc5 => ?_)
    · rw [if_pos hc5] at h
      refine lv_aload_n hx hb dX4_behindFitting_38 rfl (lv_at hl 1 rfl) ?_
      refine va_get (D := D) (ci := 4) (v := .ref (a1 0)) (C := RX4) (T := TX4) (N := 7) hx hb hts in_X4_behindFitting_X4 hown hK hP 0 rfl rfl 1 (by decide) (hts (.fieldLink RX4 19 "TermLoom" "terms" "LTermLoom$TermStore;") (by decide +kernel)) (fun _ h9 => h9) rfl dX4_behindFitting_39 ?_
      refine lv_iload_n hx hb dX4_behindFitting_42 rfl (lv_at hl 2 rfl) ?_
      obtain ⟨q6, hq6, h⟩ := ob h
      refine mc_i (ws' := wX4 a4 a2 a1 a3 a0 cI cZ (x, y, q6.2.1, q6.2.2, b)) (wr := ((wX4o a4 a2 a1 a0 cI cZ x) ++ (wX2o a2 cI cZ y) ++ (wX0o a0 cI cZ b) : va_W)) [14, 15, 16, 17, 18, 19, 20, 21] [0, 1, 2, 3, 4, 5, 6, 7, 8, 9, 10, 11, 12, 13, 22, 23, 24, 25, 26, 27, 28] [0, 1, 2, 3, 4, 5, 6, 7, 8, 9, 10, 11, 12, 13, 21, 22, 23, 24, 25, 26, 27, 28, 14, 15, 16, 17, 18, 19, 20] (va_runV (As := [.int x1]) (rest := []) ⟨hx, hb, hml, hown, hts⟩ (c_X1_symbolType l D cI cZ a1 a3 N q4.2.1 q4.2.2 x1 q6.1 q6.2 hq6 H.size) (cwV 1 hts gX4_behindFitting_X1_symbolType rfl rfl rfl (by decide +kernel) ⟨Nat.le_of_ble_eq_true rfl, Nat.le_of_ble_eq_true rfl⟩) (pV [14, 15, 16, 17, 18, 19, 20, 21] hP hD hK hN rfl rfl rfl rfl) rfl rfl hl.1 rfl (lv_room (Nat.le_of_ble_eq_true rfl)) dX4_behindFitting_43 ⟨Nat.le_of_ble_eq_true rfl, Nat.le_of_ble_eq_true rfl⟩) hP hD hS hA rfl rfl rfl (by decide) rfl rfl (fun H locs hP hD hS => ?_)
      refine lv_istore (lv' := [(4, .int q6.1), (3, .int q1.1), (0, .ref (a4 0)), (1, .int x1), (2, .int x2)]) hx hb dX4_behindFitting_46 hl (by decide) rfl (fun ls hl => ?_)
      refine lv_aload_n hx hb dX4_behindFitting_48 rfl (lv_at hl 2 rfl) ?_
      refine va_get (D := D) (ci := 4) (v := .ref (a1 0)) (C := RX4) (T := TX4) (N := 7) hx hb hts in_X4_behindFitting_X4 hown hK hP 0 rfl rfl 1 (by decide) (hts (.fieldLink RX4 19 "TermLoom" "terms" "LTermLoom$TermStore;") (by decide +kernel)) (fun _ h9 => h9) rfl dX4_behindFitting_49 ?_
      refine lv_iload_n hx hb dX4_behindFitting_52 rfl (lv_at hl 4 rfl) ?_
      obtain ⟨q7, hq7, h⟩ := ob h
      refine mc_i (ws' := wX4 a4 a2 a1 a3 a0 cI cZ (x, y, q7.2.1, q7.2.2, b)) (wr := ((wX4o a4 a2 a1 a0 cI cZ x) ++ (wX2o a2 cI cZ y) ++ (wX0o a0 cI cZ b) : va_W)) [14, 15, 16, 17, 18, 19, 20, 21] [0, 1, 2, 3, 4, 5, 6, 7, 8, 9, 10, 11, 12, 13, 22, 23, 24, 25, 26, 27, 28] [0, 1, 2, 3, 4, 5, 6, 7, 8, 9, 10, 11, 12, 13, 21, 22, 23, 24, 25, 26, 27, 28, 14, 15, 16, 17, 18, 19, 20] (va_runV (As := [.int x2]) (rest := []) ⟨hx, hb, hml, hown, hts⟩ (c_X1_symbolType l D cI cZ a1 a3 N q6.2.1 q6.2.2 x2 q7.1 q7.2 hq7 H.size) (cwV 1 hts gX4_behindFitting_X1_symbolType rfl rfl rfl (by decide +kernel) ⟨Nat.le_of_ble_eq_true rfl, Nat.le_of_ble_eq_true rfl⟩) (pV [14, 15, 16, 17, 18, 19, 20, 21] hP hD hK hN rfl rfl rfl rfl) rfl rfl hl.1 rfl (lv_room (Nat.le_of_ble_eq_true rfl)) dX4_behindFitting_53 ⟨Nat.le_of_ble_eq_true rfl, Nat.le_of_ble_eq_true rfl⟩) hP hD hS hA rfl rfl rfl (by decide) rfl rfl (fun H locs hP hD hS => ?_)
      refine lv_istore (lv' := [(5, .int q7.1), (4, .int q6.1), (3, .int q1.1), (0, .ref (a4 0)), (1, .int x1), (2, .int x2)]) hx hb dX4_behindFitting_56 hl (by decide) rfl (fun ls hl => ?_)
      refine lv_iconst (v := 1) hx hb dX4_behindFitting_58 rfl ?_
      refine lv_istore (lv' := [(6, .int 1), (5, .int q7.1), (4, .int q6.1), (3, .int q1.1), (0, .ref (a4 0)), (1, .int x1), (2, .int x2)]) hx hb dX4_behindFitting_59 hl (by decide) rfl (fun ls hl => ?_)
      refine lv_iload_n hx hb dX4_behindFitting_61 rfl (lv_at hl 3 rfl) ?_
      refine lv_bipush (v := (-2)) hx hb dX4_behindFitting_62 rfl ?_
      refine lv_icmp_ne (tgt := 97) hx hb dX4_behindFitting_64 (by decide) (fun hc8 => ?_) (fun hc8 => ?_)
      · rw [if_neg hc8] at h
        refine lv_iconst (v := 2) hx hb dX4_behindFitting_97 rfl ?_
        refine lv_iload_n hx hb dX4_behindFitting_98 rfl (lv_at hl 3 rfl) ?_
        obtain ⟨q9, hq9, h⟩ := ob h
        refine mc_i (ws' := wX4 a4 a2 a1 a3 a0 cI cZ (x, y, q7.2.1, q7.2.2, b)) (wr := ((wX4o a4 a2 a1 a0 cI cZ x) ++ (wX2o a2 cI cZ y) ++ (wX1o a1 a3 cI cZ q7.2.1) ++ (wX3o a3 cI cZ q7.2.2) ++ (wX0o a0 cI cZ b) : va_W)) [] [0, 1, 2, 3, 4, 5, 6, 7, 8, 9, 10, 11, 12, 13, 14, 15, 16, 17, 18, 19, 20, 21, 22, 23, 24, 25, 26, 27, 28] [0, 1, 2, 3, 4, 5, 6, 7, 8, 9, 10, 11, 12, 13, 14, 15, 16, 17, 18, 19, 20, 21, 22, 23, 24, 25, 26, 27, 28] (va_runS (As := [.int 2, .int q1.1]) (rest := []) ⟨hx, hb, hml, hown, hts⟩ (c_X4_isOf l D cI cZ N 2 q1.1 q9.1 q9.2 hq9 H.size) (va_cwS 2 hts gX4_behindFitting_X4_isOf rfl rfl rfl (by decide +kernel) ⟨Nat.le_of_ble_eq_true rfl, Nat.le_of_ble_eq_true rfl⟩) (pS [] hP hD hK hN rfl rfl) rfl rfl hl.1 rfl (lv_room (Nat.le_of_ble_eq_true rfl)) dX4_behindFitting_99 ⟨Nat.le_of_ble_eq_true rfl, Nat.le_of_ble_eq_true rfl⟩) hP hD hS hA rfl rfl rfl (by decide) rfl rfl (fun H locs hP hD hS => ?_)
        refine lv_if_eq (tgt := 118) hx hb dX4_behindFitting_102 (by decide) (fun hc10 => ?_) (fun hc10 => ?_)
        · rw [if_pos hc10] at h
          exact k_X4_behindFitting_118 C0 N x y q7.2.1 q7.2.2 b x2 1 _ _ _ hP hD hS (lv_sub hl [6, 0] rfl) h
        · rw [if_neg hc10] at h
          refine lv_aload_n hx hb dX4_behindFitting_105 rfl (lv_at hl 4 rfl) ?_
          refine va_get (D := D) (ci := 4) (v := .ref (a2 0)) (C := RX4) (T := TX4) (N := 7) hx hb hts in_X4_behindFitting_X4 hown hK hP 0 rfl rfl 0 (by decide) (hts (.fieldLink RX4 10 "TermLoom" "types" "LTermLoom$TypeTable;") (by decide +kernel)) (fun _ h9 => h9) rfl dX4_behindFitting_106 ?_
          refine lv_iload hx hb dX4_behindFitting_109 (lv_at hl 2 rfl) ?_
          refine lv_iload hx hb dX4_behindFitting_111 (lv_at hl 1 rfl) ?_
          obtain ⟨q11, hq11, h⟩ := ob h
          refine mc_i (ws' := wX4 a4 a2 a1 a3 a0 cI cZ (x, q11.2, q7.2.1, q7.2.2, b)) (wr := ((wX4o a4 a2 a1 a0 cI cZ x) ++ (wX1o a1 a3 cI cZ q7.2.1) ++ (wX3o a3 cI cZ q7.2.2) ++ (wX0o a0 cI cZ b) : va_W)) [3, 4, 5, 6, 7, 8, 9, 10, 11, 12, 13] [0, 1, 2, 14, 15, 16, 17, 18, 19, 20, 21, 22, 23, 24, 25, 26, 27, 28] [0, 1, 2, 18, 19, 20, 21, 22, 23, 24, 25, 26, 27, 28, 3, 4, 5, 6, 7, 8, 9, 10, 11, 12, 13, 14, 15, 16, 17] (va_runV (As := [.int q6.1, .int q7.1]) (rest := []) ⟨hx, hb, hml, hown, hts⟩ (c_X2_fits l D cI cZ a2 N y q6.1 q7.1 q11.1 q11.2 hq11 H.size) (cwV 2 hts gX4_behindFitting_X2_fits rfl rfl rfl (by decide +kernel) ⟨Nat.le_of_ble_eq_true rfl, Nat.le_of_ble_eq_true rfl⟩) (pV [3, 4, 5, 6, 7, 8, 9, 10, 11, 12, 13] hP hD hK hN rfl rfl rfl rfl) rfl rfl hl.1 rfl (lv_room (Nat.le_of_ble_eq_true rfl)) dX4_behindFitting_113 ⟨Nat.le_of_ble_eq_true rfl, Nat.le_of_ble_eq_true rfl⟩) hP hD hS hA rfl rfl rfl (by decide) rfl rfl (fun H locs hP hD hS => ?_)
          refine lv_istore (lv' := [(6, .int q11.1), (5, .int q7.1), (4, .int q6.1), (3, .int q1.1), (0, .ref (a4 0)), (1, .int x1), (2, .int x2)]) hx hb dX4_behindFitting_116 hl (by decide) rfl (fun ls hl => ?_)
          exact k_X4_behindFitting_118 C0 N x q11.2 q7.2.1 q7.2.2 b x2 q11.1 _ _ _ hP hD hS (lv_sub hl [6, 0] rfl) h
      · rw [if_pos hc8] at h
        refine lv_aload_n hx hb dX4_behindFitting_67 rfl (lv_at hl 4 rfl) ?_
        refine va_get (D := D) (ci := 4) (v := .ref (a2 0)) (C := RX4) (T := TX4) (N := 7) hx hb hts in_X4_behindFitting_X4 hown hK hP 0 rfl rfl 0 (by decide) (hts (.fieldLink RX4 10 "TermLoom" "types" "LTermLoom$TypeTable;") (by decide +kernel)) (fun _ h9 => h9) rfl dX4_behindFitting_68 ?_
        refine lv_aload_n hx hb dX4_behindFitting_71 rfl (lv_at hl 4 rfl) ?_
        refine va_get (D := D) (ci := 4) (v := .ref (a2 0)) (C := RX4) (T := TX4) (N := 7) hx hb hts in_X4_behindFitting_X4 hown hK hP 0 rfl rfl 0 (by decide) (hts (.fieldLink RX4 10 "TermLoom" "types" "LTermLoom$TypeTable;") (by decide +kernel)) (fun _ h9 => h9) rfl dX4_behindFitting_72 ?_
        refine lv_iload hx hb dX4_behindFitting_75 (lv_at hl 2 rfl) ?_
        obtain ⟨q12, hq12, h⟩ := ob h
        refine mc_i (ws' := wX4 a4 a2 a1 a3 a0 cI cZ (x, q12.2, q7.2.1, q7.2.2, b)) (wr := ((wX4o a4 a2 a1 a0 cI cZ x) ++ (wX1o a1 a3 cI cZ q7.2.1) ++ (wX3o a3 cI cZ q7.2.2) ++ (wX0o a0 cI cZ b) : va_W)) [3, 4, 5, 6, 7, 8, 9, 10, 11, 12, 13] [0, 1, 2, 14, 15, 16, 17, 18, 19, 20, 21, 22, 23, 24, 25, 26, 27, 28] [0, 1, 2, 18, 19, 20, 21, 22, 23, 24, 25, 26, 27, 28, 3, 4, 5, 6, 7, 8, 9, 10, 11, 12, 13, 14, 15, 16, 17] (va_runV (As := [.int q6.1]) (rest := [.ref (a2 0)]) ⟨hx, hb, hml, hown, hts⟩ (c_X2_first l D cI cZ a2 N y q6.1 q12.1 q12.2 hq12 H.size) (cwV 1 hts gX4_behindFitting_X2_first rfl rfl rfl (by decide +kernel) ⟨Nat.le_of_ble_eq_true rfl, Nat.le_of_ble_eq_true rfl⟩) (pV [3, 4, 5, 6, 7, 8, 9, 10, 11, 12, 13] hP hD hK hN rfl rfl rfl rfl) rfl rfl hl.1 rfl (lv_room (Nat.le_of_ble_eq_true rfl)) dX4_behindFitting_77 ⟨Nat.le_of_ble_eq_true rfl, Nat.le_of_ble_eq_true rfl⟩) hP hD hS hA rfl rfl rfl (by decide) rfl rfl (fun H locs hP hD hS => ?_)
        refine lv_aload_n hx hb dX4_behindFitting_80 rfl (lv_at hl 4 rfl) ?_
        refine va_get (D := D) (ci := 4) (v := .ref (a2 0)) (C := RX4) (T := TX4) (N := 7) hx hb hts in_X4_behindFitting_X4 hown hK hP 0 rfl rfl 0 (by decide) (hts (.fieldLink RX4 10 "TermLoom" "types" "LTermLoom$TypeTable;") (by decide +kernel)) (fun _ h9 => h9) rfl dX4_behindFitting_81 ?_
        refine lv_iload hx hb dX4_behindFitting_84 (lv_at hl 1 rfl) ?_
        obtain ⟨q13, hq13, h⟩ := ob h
        refine mc_i (ws' := wX4 a4 a2 a1 a3 a0 cI cZ (x, q13.2, q7.2.1, q7.2.2, b)) (wr := ((wX4o a4 a2 a1 a0 cI cZ x) ++ (wX1o a1 a3 cI cZ q7.2.1) ++ (wX3o a3 cI cZ q7.2.2) ++ (wX0o a0 cI cZ b) : va_W)) [3, 4, 5, 6, 7, 8, 9, 10, 11, 12, 13] [0, 1, 2, 14, 15, 16, 17, 18, 19, 20, 21, 22, 23, 24, 25, 26, 27, 28] [0, 1, 2, 18, 19, 20, 21, 22, 23, 24, 25, 26, 27, 28, 3, 4, 5, 6, 7, 8, 9, 10, 11, 12, 13, 14, 15, 16, 17] (va_runV (As := [.int q7.1]) (rest := [.int q12.1, .ref (a2 0)]) ⟨hx, hb, hml, hown, hts⟩ (c_X2_first l D cI cZ a2 N q12.2 q7.1 q13.1 q13.2 hq13 H.size) (cwV 1 hts gX4_behindFitting_X2_first rfl rfl rfl (by decide +kernel) ⟨Nat.le_of_ble_eq_true rfl, Nat.le_of_ble_eq_true rfl⟩) (pV [3, 4, 5, 6, 7, 8, 9, 10, 11, 12, 13] hP hD hK hN rfl rfl rfl rfl) rfl rfl hl.1 rfl (lv_room (Nat.le_of_ble_eq_true rfl)) dX4_behindFitting_86 ⟨Nat.le_of_ble_eq_true rfl, Nat.le_of_ble_eq_true rfl⟩) hP hD hS hA rfl rfl rfl (by decide) rfl rfl (fun H locs hP hD hS => ?_)
        obtain ⟨q14, hq14, h⟩ := ob h
        refine mc_i (ws' := wX4 a4 a2 a1 a3 a0 cI cZ (x, q14.2, q7.2.1, q7.2.2, b)) (wr := ((wX4o a4 a2 a1 a0 cI cZ x) ++ (wX1o a1 a3 cI cZ q7.2.1) ++ (wX3o a3 cI cZ q7.2.2) ++ (wX0o a0 cI cZ b) : va_W)) [3, 4, 5, 6, 7, 8, 9, 10, 11, 12, 13] [0, 1, 2, 14, 15, 16, 17, 18, 19, 20, 21, 22, 23, 24, 25, 26, 27, 28] [0, 1, 2, 18, 19, 20, 21, 22, 23, 24, 25, 26, 27, 28, 3, 4, 5, 6, 7, 8, 9, 10, 11, 12, 13, 14, 15, 16, 17] (va_runV (As := [.int q12.1, .int q13.1]) (rest := []) ⟨hx, hb, hml, hown, hts⟩ (c_X2_fits l D cI cZ a2 N q13.2 q12.1 q13.1 q14.1 q14.2 hq14 H.size) (cwV 2 hts gX4_behindFitting_X2_fits rfl rfl rfl (by decide +kernel) ⟨Nat.le_of_ble_eq_true rfl, Nat.le_of_ble_eq_true rfl⟩) (pV [3, 4, 5, 6, 7, 8, 9, 10, 11, 12, 13] hP hD hK hN rfl rfl rfl rfl) rfl rfl hl.1 rfl (lv_room (Nat.le_of_ble_eq_true rfl)) dX4_behindFitting_89 ⟨Nat.le_of_ble_eq_true rfl, Nat.le_of_ble_eq_true rfl⟩) hP hD hS hA rfl rfl rfl (by decide) rfl rfl (fun H locs hP hD hS => ?_)
        refine lv_istore (lv' := [(6, .int q14.1), (5, .int q7.1), (4, .int q6.1), (3, .int q1.1), (0, .ref (a4 0)), (1, .int x1), (2, .int x2)]) hx hb dX4_behindFitting_92 hl (by decide) rfl (fun ls hl => ?_)
        refine lv_goto (tgt := 118) hx hb dX4_behindFitting_94 (by decide) ?_
        exact k_X4_behindFitting_118 C0 N x q14.2 q7.2.1 q7.2.2 b x2 q14.1 _ _ _ hP hD hS (lv_sub hl [6, 0] rfl) h
    · rw [if_neg hc5] at h
      refine lv_iconst (v := (-1)) hx hb dX4_behindFitting_36 rfl ?_
      obtain ⟨rfl, rfl⟩ := so h
      exact ret_i C0 hP hD hS dX4_behindFitting_37
  · rw [if_neg hc3] at h
    refine lv_aload_n hx hb dX4_behindFitting_17 rfl (lv_at hl 1 rfl) ?_
    refine lv_iload_n hx hb dX4_behindFitting_18 rfl (lv_at hl 2 rfl) ?_
    refine lv_iload_n hx hb dX4_behindFitting_19 rfl (lv_at hl 3 rfl) ?_
    obtain ⟨q15, hq15, h⟩ := ob h
    refine mc_i (ws' := wX4 a4 a2 a1 a3 a0 cI cZ (q15.2.1, q15.2.2.1, q15.2.2.2.1, q15.2.2.2.2.1, q15.2.2.2.2.2)) (wr := ([] : va_W)) [0, 1, 2, 3, 4, 5, 6, 7, 8, 9, 10, 11, 12, 13, 14, 15, 16, 17, 18, 19, 20, 21, 22, 23, 24, 25, 26, 27, 28] [] [0, 1, 2, 3, 4, 5, 6, 7, 8, 9, 10, 11, 12, 13, 14, 15, 16, 17, 18, 19, 20, 21, 22, 23, 24, 25, 26, 27, 28] (va_runV (As := [.int x1, .int x2]) (rest := []) ⟨hx, hb, hml, hown, hts⟩ (c_X4_behindBinding l D cI cZ a4 a2 a1 a3 a0 N x y q1.2.1 q1.2.2 b x1 x2 q15.1 q15.2 hq15 H.size) (cwV 2 hts gX4_behindFitting_X4_behindBinding rfl rfl rfl (by decide +kernel) ⟨Nat.le_of_ble_eq_true rfl, Nat.le_of_ble_eq_true rfl⟩) (pV [0, 1, 2, 3, 4, 5, 6, 7, 8, 9, 10, 11, 12, 13, 14, 15, 16, 17, 18, 19, 20, 21, 22, 23, 24, 25, 26, 27, 28] hP hD hK hN rfl rfl rfl rfl) rfl rfl hl.1 rfl (lv_room (Nat.le_of_ble_eq_true rfl)) dX4_behindFitting_20 ⟨Nat.le_of_ble_eq_true rfl, Nat.le_of_ble_eq_true rfl⟩) hP hD hS hA rfl rfl rfl (by decide) rfl rfl (fun H locs hP hD hS => ?_)
    obtain ⟨rfl, rfl⟩ := so h
    exact ret_i C0 hP hD hS dX4_behindFitting_23

theorem in_X4_wholeFits_X4 : ∀ w ∈ u_ws RX4 TX4 7, w ∈ wsX4_wholeFits := by decide +kernel
def f_X4_wholeFits_19 (N : Nat) : Nat → St → St → St → St → St → Int32 → Int32 → Int32 → Option (Int32 × (St × St × St × St × St))
  | 0, _, _, _, _, _, _, _, _ => none
  | n + 1, x, y, t, k, b, x1, x3, x4 => (f_X1_end N t k x1).bind (fun q1 => if q1.1 ≤ x4 then some (1, (x, y, q1.2.1, q1.2.2, b)) else (f_X4_behindFitting N x y q1.2.1 q1.2.2 b x4 x3).bind (fun q3 => if q3.1 = (-1) then some (0, (q3.2.1, q3.2.2.1, q3.2.2.2.1, q3.2.2.2.2.1, q3.2.2.2.2.2)) else f_X4_wholeFits_19 N n q3.2.1 q3.2.2.1 q3.2.2.2.1 q3.2.2.2.2.1 q3.2.2.2.2.2 x1 q3.1 (x4 + 1)))
def f_X4_wholeFits (N : Nat) (x y t k b : St) (x1 x2 : Int32) : Option (Int32 × (St × St × St × St × St)) := (f_X1_start N t k x2).bind (fun q1 => (f_X1_start N q1.2.1 q1.2.2 x1).bind (fun q2 => f_X4_wholeFits_19 N N x y q2.2.1 q2.2.2 b x1 q1.1 q2.1))
abbrev KP_X4_wholeFits_19 (p : Program) (l : Launch) (e : Env) (s : State) (m : MethodId) (args : Array Value) (below : List Frame) (meth : Method) (c : Code) (D : va_G) (cI cZ : ClassId) (a4 a2 a1 a3 a0 : Nat → Nat) (A : Nat → Prop) (r : Int32) (u1 : St × St × St × St × St) (K : St → St → St → St → St → Int32 → Int32 → Int32 → Option (Int32 × (St × St × St × St × St))) : Prop := ∀ (x y t k b : St) (x1 x3 x4 : Int32) (H : Heap) (locs : List Loc) (ls : Array Slot), va_P D vwCl (wX4 a4 a2 a1 a3 a0 cI cZ (x, y, t, k, b)) H → va_D A (wX4 a4 a2 a1 a3 a0 cI cZ (x, y, t, k, b)) → va_S A s.heap H locs → lv_has ls 5 [(0, .ref (a4 0)), (1, .int x1), (3, .int x3), (4, .int x4)] → K x y t k b x1 x3 x4 = some (r, u1) → W p l e ({ frames := 130, cells := 0, slots := 0, locals := 5099 } : Room) s m args below meth c H locs 0 0 (QI below args s D cI cZ (wX4 a4 a2 a1 a3 a0 cI cZ) A r u1) (F0 m 19 ls [])
set_option maxHeartbeats 4000000 in
set_option maxRecDepth 100000 in
theorem k_X4_wholeFits_19 {p : Program} {l : Launch} {e : Env} {s : State} {m : MethodId} {args : Array Value} {below : List Frame} {meth : Method} {c : Code} {D : va_G} {cI cZ : ClassId} {a4 a2 a1 a3 a0 : Nat → Nat} {A : Nat → Prop} {r : Int32} {u1 : St × St × St × St × St} (C0 : mB p s m args meth c D cI cZ A cX4_wholeFits 5 (some .boolean) wsX4_wholeFits RX4) (N : Nat) : ∀ n : Nat, KP_X4_wholeFits_19 p l e s m args below meth c D cI cZ a4 a2 a1 a3 a0 A r u1 (f_X4_wholeFits_19 N n) := by
  obtain ⟨hx, hb, hml, hr, hown, hts, hlocks, hA, hK, hN⟩ := id C0
  intro n
  induction n with
  | zero =>
    intro x y t k b x1 x3 x4 H locs ls hP hD hS hl h
    exact no (show (none : Option (Int32 × (St × St × St × St × St))) = _ from h)
  | succ n ih =>
    intro x y t k b x1 x3 x4 H locs ls hP hD hS hl h
    rw [f_X4_wholeFits_19] at h
    refine lv_iload hx hb dX4_wholeFits_19 (lv_at hl 3 rfl) ?_
    refine lv_aload_n hx hb dX4_wholeFits_21 rfl (lv_at hl 0 rfl) ?_
    refine va_get (D := D) (ci := 4) (v := .ref (a1 0)) (C := RX4) (T := TX4) (N := 7) hx hb hts in_X4_wholeFits_X4 hown hK hP 0 rfl rfl 1 (by decide) (hts (.fieldLink RX4 19 "TermLoom" "terms" "LTermLoom$TermStore;") (by decide +kernel)) (fun _ h9 => h9) rfl dX4_wholeFits_22 ?_
    refine lv_iload_n hx hb dX4_wholeFits_25 rfl (lv_at hl 1 rfl) ?_
    obtain ⟨q1, hq1, h⟩ := ob h
    refine mc_i (ws' := wX4 a4 a2 a1 a3 a0 cI cZ (x, y, q1.2.1, q1.2.2, b)) (wr := ((wX4o a4 a2 a1 a0 cI cZ x) ++ (wX2o a2 cI cZ y) ++ (wX0o a0 cI cZ b) : va_W)) [14, 15, 16, 17, 18, 19, 20, 21] [0, 1, 2, 3, 4, 5, 6, 7, 8, 9, 10, 11, 12, 13, 22, 23, 24, 25, 26, 27, 28] [0, 1, 2, 3, 4, 5, 6, 7, 8, 9, 10, 11, 12, 13, 21, 22, 23, 24, 25, 26, 27, 28, 14, 15, 16, 17, 18, 19, 20] (va_runV (As := [.int x1]) (rest := [.int x4]) ⟨hx, hb, hml, hown, hts⟩ (c_X1_end l D cI cZ a1 a3 N t k x1 q1.1 q1.2 hq1 H.size) (cwV 1 hts gX4_wholeFits_X1_end rfl rfl rfl (by decide +kernel) ⟨Nat.le_of_ble_eq_true rfl, Nat.le_of_ble_eq_true rfl⟩) (pV [14, 15, 16, 17, 18, 19, 20, 21] hP hD hK hN rfl rfl rfl rfl) rfl rfl hl.1 rfl (lv_room (Nat.le_of_ble_eq_true rfl)) dX4_wholeFits_26 ⟨Nat.le_of_ble_eq_true rfl, Nat.le_of_ble_eq_true rfl⟩) hP hD hS hA rfl rfl rfl (by decide) rfl rfl (fun H locs hP hD hS => ?_)
    refine lv_icmp_ge (tgt := 53) hx hb dX4_wholeFits_29 (by decide) (fun hc2 => ?_) (fun hc2 => ?_)
    · rw [if_pos hc2] at h
      refine lv_iconst (v := 1) hx hb dX4_wholeFits_53 rfl ?_
      obtain ⟨rfl, rfl⟩ := so h
      exact ret_z C0 (Or.inr rfl) hP hD hS dX4_wholeFits_54
    · rw [if_neg hc2] at h
      refine lv_aload_n hx hb dX4_wholeFits_32 rfl (lv_at hl 0 rfl) ?_
      refine lv_iload hx hb dX4_wholeFits_33 (lv_at hl 3 rfl) ?_
      refine lv_iload_n hx hb dX4_wholeFits_35 rfl (lv_at hl 2 rfl) ?_
      obtain ⟨q3, hq3, h⟩ := ob h
      refine mc_i (ws' := wX4 a4 a2 a1 a3 a0 cI cZ (q3.2.1, q3.2.2.1, q3.2.2.2.1, q3.2.2.2.2.1, q3.2.2.2.2.2)) (wr := ([] : va_W)) [0, 1, 2, 3, 4, 5, 6, 7, 8, 9, 10, 11, 12, 13, 14, 15, 16, 17, 18, 19, 20, 21, 22, 23, 24, 25, 26, 27, 28] [] [0, 1, 2, 3, 4, 5, 6, 7, 8, 9, 10, 11, 12, 13, 14, 15, 16, 17, 18, 19, 20, 21, 22, 23, 24, 25, 26, 27, 28] (va_runV (As := [.int x4, .int x3]) (rest := []) ⟨hx, hb, hml, hown, hts⟩ (c_X4_behindFitting l D cI cZ a4 a2 a1 a3 a0 N x y q1.2.1 q1.2.2 b x4 x3 q3.1 q3.2 hq3 H.size) (cwV 2 hts gX4_wholeFits_X4_behindFitting rfl rfl rfl (by decide +kernel) ⟨Nat.le_of_ble_eq_true rfl, Nat.le_of_ble_eq_true rfl⟩) (pV [0, 1, 2, 3, 4, 5, 6, 7, 8, 9, 10, 11, 12, 13, 14, 15, 16, 17, 18, 19, 20, 21, 22, 23, 24, 25, 26, 27, 28] hP hD hK hN rfl rfl rfl rfl) rfl rfl hl.1 rfl (lv_room (Nat.le_of_ble_eq_true rfl)) dX4_wholeFits_36 ⟨Nat.le_of_ble_eq_true rfl, Nat.le_of_ble_eq_true rfl⟩) hP hD hS hA rfl rfl rfl (by decide) rfl rfl (fun H locs hP hD hS => ?_)
      refine lv_istore_n (lv' := [(3, .int q3.1), (0, .ref (a4 0)), (1, .int x1), (4, .int x4)]) hx hb dX4_wholeFits_39 rfl hl (by decide) rfl (fun ls hl => ?_)
      refine lv_iload_n hx hb dX4_wholeFits_40 rfl (lv_at hl 0 rfl) ?_
      refine lv_iconst (v := (-1)) hx hb dX4_wholeFits_41 rfl ?_
      refine lv_icmp_ne (tgt := 47) hx hb dX4_wholeFits_42 (by decide) (fun hc4 => ?_) (fun hc4 => ?_)
      · rw [if_neg hc4] at h
        refine lv_iinc (v := (x4 + 1)) (lv' := [(4, .int (x4 + 1)), (3, .int q3.1), (0, .ref (a4 0)), (1, .int x1)]) hx hb dX4_wholeFits_47 hl (k := 3) rfl rfl (by decide) rfl (fun ls hl => ?_)
        refine lv_goto (tgt := 19) hx hb dX4_wholeFits_50 (by decide) ?_
        exact ih q3.2.1 q3.2.2.1 q3.2.2.2.1 q3.2.2.2.2.1 q3.2.2.2.2.2 x1 q3.1 (x4 + 1) _ _ _ hP hD hS (lv_sub hl [2, 3, 1, 0] rfl) h
      · rw [if_pos hc4] at h
        refine lv_iconst (v := 0) hx hb dX4_wholeFits_45 rfl ?_
        obtain ⟨rfl, rfl⟩ := so h
        exact ret_z C0 (Or.inl rfl) hP hD hS dX4_wholeFits_46
set_option maxHeartbeats 4000000 in
set_option maxRecDepth 100000 in
theorem c_X4_wholeFits (l : Launch) (D : va_G) (cI cZ : ClassId) (a4 a2 a1 a3 a0 : Nat → Nat) (N : Nat) (x y t k b : St) (x1 x2 : Int32) : MI l yX4_wholeFits wsX4_wholeFits ({ frames := 130, cells := 0, slots := 0, locals := 5099 } : Room) D cI cZ (wX4 a4 a2 a1 a3 a0 cI cZ) [.ref (a4 0), .int x1, .int x2] (x, y, t, k, b) (f_X4_wholeFits N x y t k b x1 x2) := by
  refine MI.of (cc := cX4_wholeFits) (maxL := 5) (ret := (some .boolean)) (own := RX4) (by decide) rfl rfl (Nat.le_of_ble_eq_true rfl) ?_
  intro r u1 h p e s m args below meth c A C0 H locs ls hP hD hS hl
  obtain ⟨hx, hb, hml, hr, hown, hts, hlocks, hA, hK, hN⟩ := id C0
  have hl : lv_has ls 5 [(0, .ref (a4 0)), (1, .int x1), (2, .int x2)] := hl
  unfold f_X4_wholeFits at h
  refine lv_aload_n hx hb dX4_wholeFits_0 rfl (lv_at hl 0 rfl) ?_
  refine va_get (D := D) (ci := 4) (v := .ref (a1 0)) (C := RX4) (T := TX4) (N := 7) hx hb hts in_X4_wholeFits_X4 hown hK hP 0 rfl rfl 1 (by decide) (hts (.fieldLink RX4 19 "TermLoom" "terms" "LTermLoom$TermStore;") (by decide +kernel)) (fun _ h9 => h9) rfl dX4_wholeFits_1 ?_
  refine lv_iload_n hx hb dX4_wholeFits_4 rfl (lv_at hl 2 rfl) ?_
  obtain ⟨q1, hq1, h⟩ := ob h
  refine mc_i (ws' := wX4 a4 a2 a1 a3 a0 cI cZ (x, y, q1.2.1, q1.2.2, b)) (wr := ((wX4o a4 a2 a1 a0 cI cZ x) ++ (wX2o a2 cI cZ y) ++ (wX0o a0 cI cZ b) : va_W)) [14, 15, 16, 17, 18, 19, 20, 21] [0, 1, 2, 3, 4, 5, 6, 7, 8, 9, 10, 11, 12, 13, 22, 23, 24, 25, 26, 27, 28] [0, 1, 2, 3, 4, 5, 6, 7, 8, 9, 10, 11, 12, 13, 21, 22, 23, 24, 25, 26, 27, 28, 14, 15, 16, 17, 18, 19, 20] (va_runV (As := [.int x2]) (rest := []) ⟨hx, hb, hml, hown, hts⟩ (c_X1_start l D cI cZ a1 a3 N t k x2 q1.1 q1.2 hq1 H.size) (cwV 1 hts gX4_wholeFits_X1_start rfl rfl rfl (by decide +kernel) ⟨Nat.le_of_ble_eq_true rfl, Nat.le_of_ble_eq_true rfl⟩) (pV [14, 15, 16, 17, 18, 19, 20, 21] hP hD hK hN rfl rfl rfl rfl) rfl rfl hl.1 rfl (lv_room (Nat.le_of_ble_eq_true rfl)) dX4_wholeFits_5 ⟨Nat.le_of_ble_eq_true rfl, Nat.le_of_ble_eq_true rfl⟩) hP hD hS hA rfl rfl rfl (by decide) rfl rfl (fun H locs hP hD hS => ?_)
  refine lv_istore_n (lv' := [(3, .int q1.1), (0, .ref (a4 0)), (1, .int x1), (2, .int x2)]) hx hb dX4_wholeFits_8 rfl hl (by decide) rfl (fun ls hl => ?_)
  refine lv_aload_n hx hb dX4_wholeFits_9 rfl (lv_at hl 1 rfl) ?_
  refine va_get (D := D) (ci := 4) (v := .ref (a1 0)) (C := RX4) (T := TX4) (N := 7) hx hb hts in_X4_wholeFits_X4 hown hK hP 0 rfl rfl 1 (by decide) (hts (.fieldLink RX4 19 "TermLoom" "terms" "LTermLoom$TermStore;") (by decide +kernel)) (fun _ h9 => h9) rfl dX4_wholeFits_10 ?_
  refine lv_iload_n hx hb dX4_wholeFits_13 rfl (lv_at hl 2 rfl) ?_
  obtain ⟨q2, hq2, h⟩ := ob h
  refine mc_i (ws' := wX4 a4 a2 a1 a3 a0 cI cZ (x, y, q2.2.1, q2.2.2, b)) (wr := ((wX4o a4 a2 a1 a0 cI cZ x) ++ (wX2o a2 cI cZ y) ++ (wX0o a0 cI cZ b) : va_W)) [14, 15, 16, 17, 18, 19, 20, 21] [0, 1, 2, 3, 4, 5, 6, 7, 8, 9, 10, 11, 12, 13, 22, 23, 24, 25, 26, 27, 28] [0, 1, 2, 3, 4, 5, 6, 7, 8, 9, 10, 11, 12, 13, 21, 22, 23, 24, 25, 26, 27, 28, 14, 15, 16, 17, 18, 19, 20] (va_runV (As := [.int x1]) (rest := []) ⟨hx, hb, hml, hown, hts⟩ (c_X1_start l D cI cZ a1 a3 N q1.2.1 q1.2.2 x1 q2.1 q2.2 hq2 H.size) (cwV 1 hts gX4_wholeFits_X1_start rfl rfl rfl (by decide +kernel) ⟨Nat.le_of_ble_eq_true rfl, Nat.le_of_ble_eq_true rfl⟩) (pV [14, 15, 16, 17, 18, 19, 20, 21] hP hD hK hN rfl rfl rfl rfl) rfl rfl hl.1 rfl (lv_room (Nat.le_of_ble_eq_true rfl)) dX4_wholeFits_14 ⟨Nat.le_of_ble_eq_true rfl, Nat.le_of_ble_eq_true rfl⟩) hP hD hS hA rfl rfl rfl (by decide) rfl rfl (fun H locs hP hD hS => ?_)
  refine lv_istore (lv' := [(4, .int q2.1), (3, .int q1.1), (0, .ref (a4 0)), (1, .int x1), (2, .int x2)]) hx hb dX4_wholeFits_17 hl (by decide) rfl (fun ls hl => ?_)
  exact k_X4_wholeFits_19 C0 N N x y q2.2.1 q2.2.2 b x1 q1.1 q2.1 _ _ _ hP hD hS (lv_sub hl [2, 3, 1, 0] rfl) h

theorem in_X4_match_X4 : ∀ w ∈ u_ws RX4 TX4 7, w ∈ wsX4_match := by decide +kernel
def f_X4_match (N : Nat) (x y t k b : St) (x1 x2 : Int32) : Option ((Int32 ⊕ Nat) × (St × St × St × St × St)) := (f_X4_requireTerm N x y t k b x1).bind (fun q1 => ex q1.1 (q1.2.1, q1.2.2.1, q1.2.2.2.1, q1.2.2.2.2.1, q1.2.2.2.2.2) (fun r2 => (f_X4_requireTerm N q1.2.1 q1.2.2.1 q1.2.2.2.1 q1.2.2.2.2.1 q1.2.2.2.2.2 x2).bind (fun q3 => ex q3.1 (q3.2.1, q3.2.2.1, q3.2.2.2.1, q3.2.2.2.2.1, q3.2.2.2.2.2) (fun r4 => (f_X0_forget N q3.2.2.2.2.2).bind (fun q5 => (f_X2_beginImages N q3.2.2.1).bind (fun q6 => (f_X4_wholeFits N q3.2.1 q6 q3.2.2.2.1 q3.2.2.2.2.1 q5 x1 x2).bind (fun q7 => if q7.1 = 0 then (f_X0_forget N q7.2.2.2.2.2).bind (fun q10 => some (.inl (-1), (q7.2.1, q7.2.2.1, q7.2.2.2.1, q7.2.2.2.2.1, q10))) else (f_X0_count N q7.2.2.2.2.2).bind (fun q9 => some (.inl q9.1, (q7.2.1, q7.2.2.1, q7.2.2.2.1, q7.2.2.2.2.1, q9.2))))))))))
set_option maxHeartbeats 4000000 in
set_option maxRecDepth 100000 in
theorem c_X4_match (l : Launch) (hlt : l.stackTraces = false) (D : va_G) (cI cZ : ClassId) (sa : Nat → Nat) (a4 a2 a1 a3 a0 : Nat → Nat) (N : Nat) (x y t k b : St) (x1 x2 : Int32) : XI l yX4_match wsX4_match ({ frames := 131, cells := 2, slots := 12, locals := 5123 } : Room) D cI cZ sa (wX4 a4 a2 a1 a3 a0 cI cZ) [.ref (a4 0), .int x1, .int x2] (x, y, t, k, b) 2 12 (f_X4_match N x y t k b x1 x2) := by
  refine XI.of (cc := cX4_match) (maxL := 3) (ret := (some .int)) (own := RX4) hlt (by decide) rfl rfl (Nat.le_of_ble_eq_true rfl) ?_
  intro res u1 h p e s m args below meth c A C0 H locs ls hP hD hS hl
  obtain ⟨⟨hx, hb, hml, hr, hown, hts, hlocks, hA, hK, hN⟩, hX, hlt, hT⟩ := id C0
  have hl : lv_has ls 3 [(0, .ref (a4 0)), (1, .int x1), (2, .int x2)] := hl
  unfold f_X4_match at h
  refine lv_aload_n hx hb dX4_match_0 rfl (lv_at hl 0 rfl) ?_
  refine lv_iload_n hx hb dX4_match_1 rfl (lv_at hl 1 rfl) ?_
  obtain ⟨q1, hq1, h⟩ := ob h
  refine mx_v (uo := (q1.2.1, q1.2.2.1, q1.2.2.2.1, q1.2.2.2.2.1, q1.2.2.2.2.2)) (wr := ([] : va_W)) [0, 1, 2, 3, 4, 5, 6, 7, 8, 9, 10, 11, 12, 13, 14, 15, 16, 17, 18, 19, 20, 21, 22, 23, 24, 25, 26, 27, 28] [] [0, 1, 2, 3, 4, 5, 6, 7, 8, 9, 10, 11, 12, 13, 14, 15, 16, 17, 18, 19, 20, 21, 22, 23, 24, 25, 26, 27, 28] (vx_runV (As := [.int x1]) (rest := []) ⟨hx, hb, hml, hown, hts⟩ (c_X4_requireTerm l hlt D cI cZ sa a4 a2 a1 a3 a0 N x y t k b x1 q1.1 q1.2 hq1 H.size) (cwV 1 hts gX4_match_X4_requireTerm rfl rfl rfl (by decide +kernel) ⟨Nat.le_of_ble_eq_true rfl, Nat.le_of_ble_eq_true rfl⟩) (pXV [0, 1, 2, 3, 4, 5, 6, 7, 8, 9, 10, 11, 12, 13, 14, 15, 16, 17, 18, 19, 20, 21, 22, 23, 24, 25, 26, 27, 28] hP hD hS hA hK hN hX rfl rfl rfl rfl) rfl rfl hl.1 rfl (lv_room (Nat.le_of_ble_eq_true rfl)) dX4_match_2 ⟨Nat.le_of_ble_eq_true rfl, Nat.le_of_ble_eq_true rfl⟩) hT hlocks hK hP hD hS hA rfl rfl rfl (by decide) rfl rfl (by decide) (by decide) (fun k9 hk9 => by rw [hk9] at h; exact h) (fun r2 hr9 H locs hP hD hS => ?_)
  rw [hr9, ex_inl] at h
  refine lv_aload_n hx hb dX4_match_5 rfl (lv_at hl 0 rfl) ?_
  refine lv_iload_n hx hb dX4_match_6 rfl (lv_at hl 2 rfl) ?_
  obtain ⟨q3, hq3, h⟩ := ob h
  refine mx_v (uo := (q3.2.1, q3.2.2.1, q3.2.2.2.1, q3.2.2.2.2.1, q3.2.2.2.2.2)) (wr := ([] : va_W)) [0, 1, 2, 3, 4, 5, 6, 7, 8, 9, 10, 11, 12, 13, 14, 15, 16, 17, 18, 19, 20, 21, 22, 23, 24, 25, 26, 27, 28] [] [0, 1, 2, 3, 4, 5, 6, 7, 8, 9, 10, 11, 12, 13, 14, 15, 16, 17, 18, 19, 20, 21, 22, 23, 24, 25, 26, 27, 28] (vx_runV (As := [.int x2]) (rest := []) ⟨hx, hb, hml, hown, hts⟩ (c_X4_requireTerm l hlt D cI cZ sa a4 a2 a1 a3 a0 N q1.2.1 q1.2.2.1 q1.2.2.2.1 q1.2.2.2.2.1 q1.2.2.2.2.2 x2 q3.1 q3.2 hq3 H.size) (cwV 1 hts gX4_match_X4_requireTerm rfl rfl rfl (by decide +kernel) ⟨Nat.le_of_ble_eq_true rfl, Nat.le_of_ble_eq_true rfl⟩) (pXV [0, 1, 2, 3, 4, 5, 6, 7, 8, 9, 10, 11, 12, 13, 14, 15, 16, 17, 18, 19, 20, 21, 22, 23, 24, 25, 26, 27, 28] hP hD hS hA hK hN hX rfl rfl rfl rfl) rfl rfl hl.1 rfl (lv_room (Nat.le_of_ble_eq_true rfl)) dX4_match_7 ⟨Nat.le_of_ble_eq_true rfl, Nat.le_of_ble_eq_true rfl⟩) hT hlocks hK hP hD hS hA rfl rfl rfl (by decide) rfl rfl (by decide) (by decide) (fun k9 hk9 => by rw [hk9] at h; exact h) (fun r4 hr9 H locs hP hD hS => ?_)
  rw [hr9, ex_inl] at h
  refine lv_aload_n hx hb dX4_match_10 rfl (lv_at hl 0 rfl) ?_
  refine va_get (D := D) (ci := 4) (v := .ref (a0 0)) (C := RX4) (T := TX4) (N := 7) hx hb hts in_X4_match_X4 hown hK hP 0 rfl rfl 2 (by decide) (hts (.fieldLink RX4 26 "TermLoom" "bindings" "LTermLoom$Bindings;") (by decide +kernel)) (fun _ h9 => h9) rfl dX4_match_11 ?_
  obtain ⟨q5, hq5, h⟩ := ob h
  refine mg_v (ws' := wX4 a4 a2 a1 a3 a0 cI cZ (q3.2.1, q3.2.2.1, q3.2.2.2.1, q3.2.2.2.2.1, q5)) (wr := ((wX4o a4 a2 a1 a0 cI cZ q3.2.1) ++ (wX2o a2 cI cZ q3.2.2.1) ++ (wX1o a1 a3 cI cZ q3.2.2.2.1) ++ (wX3o a3 cI cZ q3.2.2.2.2.1) : va_W)) [22, 23, 24, 25, 26, 27, 28] [0, 1, 2, 3, 4, 5, 6, 7, 8, 9, 10, 11, 12, 13, 14, 15, 16, 17, 18, 19, 20, 21] [0, 1, 2, 3, 4, 5, 6, 7, 8, 9, 10, 11, 12, 13, 14, 15, 16, 17, 18, 19, 20, 21, 22, 23, 24, 25, 26, 27, 28] (va_runV (As := []) (rest := []) ⟨hx, hb, hml, hown, hts⟩ (c_X0_forget l D cI cZ a0 N q3.2.2.2.2.2 q5 hq5 H.size) (cwV 0 hts gX4_match_X0_forget rfl rfl rfl (by decide +kernel) ⟨Nat.le_of_ble_eq_true rfl, Nat.le_of_ble_eq_true rfl⟩) (pV [22, 23, 24, 25, 26, 27, 28] hP hD hK hN rfl rfl rfl rfl) rfl rfl hl.1 rfl (lv_room (Nat.le_of_ble_eq_true rfl)) dX4_match_14 ⟨Nat.le_of_ble_eq_true rfl, Nat.le_of_ble_eq_true rfl⟩) hP hD hS hA rfl rfl rfl (by decide) rfl rfl (fun H locs hP hD hS => ?_)
  refine lv_aload_n hx hb dX4_match_17 rfl (lv_at hl 0 rfl) ?_
  refine va_get (D := D) (ci := 4) (v := .ref (a2 0)) (C := RX4) (T := TX4) (N := 7) hx hb hts in_X4_match_X4 hown hK hP 0 rfl rfl 0 (by decide) (hts (.fieldLink RX4 10 "TermLoom" "types" "LTermLoom$TypeTable;") (by decide +kernel)) (fun _ h9 => h9) rfl dX4_match_18 ?_
  obtain ⟨q6, hq6, h⟩ := ob h
  refine mg_v (ws' := wX4 a4 a2 a1 a3 a0 cI cZ (q3.2.1, q6, q3.2.2.2.1, q3.2.2.2.2.1, q5)) (wr := ((wX4o a4 a2 a1 a0 cI cZ q3.2.1) ++ (wX1o a1 a3 cI cZ q3.2.2.2.1) ++ (wX3o a3 cI cZ q3.2.2.2.2.1) ++ (wX0o a0 cI cZ q5) : va_W)) [3, 4, 5, 6, 7, 8, 9, 10, 11, 12, 13] [0, 1, 2, 14, 15, 16, 17, 18, 19, 20, 21, 22, 23, 24, 25, 26, 27, 28] [0, 1, 2, 18, 19, 20, 21, 22, 23, 24, 25, 26, 27, 28, 3, 4, 5, 6, 7, 8, 9, 10, 11, 12, 13, 14, 15, 16, 17] (va_runV (As := []) (rest := []) ⟨hx, hb, hml, hown, hts⟩ (c_X2_beginImages l D cI cZ a2 N q3.2.2.1 q6 hq6 H.size) (cwV 0 hts gX4_match_X2_beginImages rfl rfl rfl (by decide +kernel) ⟨Nat.le_of_ble_eq_true rfl, Nat.le_of_ble_eq_true rfl⟩) (pV [3, 4, 5, 6, 7, 8, 9, 10, 11, 12, 13] hP hD hK hN rfl rfl rfl rfl) rfl rfl hl.1 rfl (lv_room (Nat.le_of_ble_eq_true rfl)) dX4_match_21 ⟨Nat.le_of_ble_eq_true rfl, Nat.le_of_ble_eq_true rfl⟩) hP hD hS hA rfl rfl rfl (by decide) rfl rfl (fun H locs hP hD hS => ?_)
  refine lv_aload_n hx hb dX4_match_24 rfl (lv_at hl 0 rfl) ?_
  refine lv_iload_n hx hb dX4_match_25 rfl (lv_at hl 1 rfl) ?_
  refine lv_iload_n hx hb dX4_match_26 rfl (lv_at hl 2 rfl) ?_
  obtain ⟨q7, hq7, h⟩ := ob h
  refine mg_i (ws' := wX4 a4 a2 a1 a3 a0 cI cZ (q7.2.1, q7.2.2.1, q7.2.2.2.1, q7.2.2.2.2.1, q7.2.2.2.2.2)) (wr := ([] : va_W)) [0, 1, 2, 3, 4, 5, 6, 7, 8, 9, 10, 11, 12, 13, 14, 15, 16, 17, 18, 19, 20, 21, 22, 23, 24, 25, 26, 27, 28] [] [0, 1, 2, 3, 4, 5, 6, 7, 8, 9, 10, 11, 12, 13, 14, 15, 16, 17, 18, 19, 20, 21, 22, 23, 24, 25, 26, 27, 28] (va_runV (As := [.int x1, .int x2]) (rest := []) ⟨hx, hb, hml, hown, hts⟩ (c_X4_wholeFits l D cI cZ a4 a2 a1 a3 a0 N q3.2.1 q6 q3.2.2.2.1 q3.2.2.2.2.1 q5 x1 x2 q7.1 q7.2 hq7 H.size) (cwV 2 hts gX4_match_X4_wholeFits rfl rfl rfl (by decide +kernel) ⟨Nat.le_of_ble_eq_true rfl, Nat.le_of_ble_eq_true rfl⟩) (pV [0, 1, 2, 3, 4, 5, 6, 7, 8, 9, 10, 11, 12, 13, 14, 15, 16, 17, 18, 19, 20, 21, 22, 23, 24, 25, 26, 27, 28] hP hD hK hN rfl rfl rfl rfl) rfl rfl hl.1 rfl (lv_room (Nat.le_of_ble_eq_true rfl)) dX4_match_27 ⟨Nat.le_of_ble_eq_true rfl, Nat.le_of_ble_eq_true rfl⟩) hP hD hS hA rfl rfl rfl (by decide) rfl rfl (fun H locs hP hD hS => ?_)
  refine lv_if_ne (tgt := 42) hx hb dX4_match_30 (by decide) (fun hc8 => ?_) (fun hc8 => ?_)
  · rw [if_neg hc8] at h
    refine lv_aload_n hx hb dX4_match_42 rfl (lv_at hl 0 rfl) ?_
    refine va_get (D := D) (ci := 4) (v := .ref (a0 0)) (C := RX4) (T := TX4) (N := 7) hx hb hts in_X4_match_X4 hown hK hP 0 rfl rfl 2 (by decide) (hts (.fieldLink RX4 26 "TermLoom" "bindings" "LTermLoom$Bindings;") (by decide +kernel)) (fun _ h9 => h9) rfl dX4_match_43 ?_
    obtain ⟨q9, hq9, h⟩ := ob h
    refine mg_i (ws' := wX4 a4 a2 a1 a3 a0 cI cZ (q7.2.1, q7.2.2.1, q7.2.2.2.1, q7.2.2.2.2.1, q9.2)) (wr := ((wX4o a4 a2 a1 a0 cI cZ q7.2.1) ++ (wX2o a2 cI cZ q7.2.2.1) ++ (wX1o a1 a3 cI cZ q7.2.2.2.1) ++ (wX3o a3 cI cZ q7.2.2.2.2.1) : va_W)) [22, 23, 24, 25, 26, 27, 28] [0, 1, 2, 3, 4, 5, 6, 7, 8, 9, 10, 11, 12, 13, 14, 15, 16, 17, 18, 19, 20, 21] [0, 1, 2, 3, 4, 5, 6, 7, 8, 9, 10, 11, 12, 13, 14, 15, 16, 17, 18, 19, 20, 21, 22, 23, 24, 25, 26, 27, 28] (va_runV (As := []) (rest := []) ⟨hx, hb, hml, hown, hts⟩ (c_X0_count l D cI cZ a0 N q7.2.2.2.2.2 q9.1 q9.2 hq9 H.size) (cwV 0 hts gX4_match_X0_count rfl rfl rfl (by decide +kernel) ⟨Nat.le_of_ble_eq_true rfl, Nat.le_of_ble_eq_true rfl⟩) (pV [22, 23, 24, 25, 26, 27, 28] hP hD hK hN rfl rfl rfl rfl) rfl rfl hl.1 rfl (lv_room (Nat.le_of_ble_eq_true rfl)) dX4_match_46 ⟨Nat.le_of_ble_eq_true rfl, Nat.le_of_ble_eq_true rfl⟩) hP hD hS hA rfl rfl rfl (by decide) rfl rfl (fun H locs hP hD hS => ?_)
    obtain ⟨rfl, rfl⟩ := so h
    exact xret_i C0 hP hD hS dX4_match_49 (by decide) (by decide)
  · rw [if_pos hc8] at h
    refine lv_aload_n hx hb dX4_match_33 rfl (lv_at hl 0 rfl) ?_
    refine va_get (D := D) (ci := 4) (v := .ref (a0 0)) (C := RX4) (T := TX4) (N := 7) hx hb hts in_X4_match_X4 hown hK hP 0 rfl rfl 2 (by decide) (hts (.fieldLink RX4 26 "TermLoom" "bindings" "LTermLoom$Bindings;") (by decide +kernel)) (fun _ h9 => h9) rfl dX4_match_34 ?_
    obtain ⟨q10, hq10, h⟩ := ob h
    refine mg_v (ws' := wX4 a4 a2 a1 a3 a0 cI cZ (q7.2.1, q7.2.2.1, q7.2.2.2.1, q7.2.2.2.2.1, q10)) (wr := ((wX4o a4 a2 a1 a0 cI cZ q7.2.1) ++ (wX2o a2 cI cZ q7.2.2.1) ++ (wX1o a1 a3 cI cZ q7.2.2.2.1) ++ (wX3o a3 cI cZ q7.2.2.2.2.1) : va_W)) [22, 23, 24, 25, 26, 27, 28] [0, 1, 2, 3, 4, 5, 6, 7, 8, 9, 10, 11, 12, 13, 14, 15, 16, 17, 18, 19, 20, 21] [0, 1, 2, 3, 4, 5, 6, 7, 8, 9, 10, 11, 12, 13, 14, 15, 16, 17, 18, 19, 20, 21, 22, 23, 24, 25, 26, 27, 28] (va_runV (As := []) (rest := []) ⟨hx, hb, hml, hown, hts⟩ (c_X0_forget l D cI cZ a0 N q7.2.2.2.2.2 q10 hq10 H.size) (cwV 0 hts gX4_match_X0_forget rfl rfl rfl (by decide +kernel) ⟨Nat.le_of_ble_eq_true rfl, Nat.le_of_ble_eq_true rfl⟩) (pV [22, 23, 24, 25, 26, 27, 28] hP hD hK hN rfl rfl rfl rfl) rfl rfl hl.1 rfl (lv_room (Nat.le_of_ble_eq_true rfl)) dX4_match_37 ⟨Nat.le_of_ble_eq_true rfl, Nat.le_of_ble_eq_true rfl⟩) hP hD hS hA rfl rfl rfl (by decide) rfl rfl (fun H locs hP hD hS => ?_)
    refine lv_iconst (v := (-1)) hx hb dX4_match_40 rfl ?_
    obtain ⟨rfl, rfl⟩ := so h
    exact xret_i C0 hP hD hS dX4_match_41 (by decide) (by decide)

theorem in_X4_matched_X4 : ∀ w ∈ u_ws RX4 TX4 7, w ∈ wsX4_matched := by decide +kernel
theorem xw_X4_matched_95 : ∀ w ∈ (vx_atS RX4 95 "java/lang/IndexOutOfBoundsException" ["java/lang/RuntimeException", "java/lang/Exception"]).filter goodWord, w ∈ wsX4_matched := by decide +kernel
def f_X4_matched_15 (N : Nat) (x y t k b : St) : Option ((Int32 ⊕ Nat) × (St × St × St × St × St)) := some (.inr 2, (x, y, t, k, b))
def f_X4_matched (N : Nat) (x y t k b : St) (x1 : Int32) : Option ((Int32 ⊕ Nat) × (St × St × St × St × St)) := if x1 < 0 then f_X4_matched_15 N x y t k b else (f_X0_count N b).bind (fun q2 => if x1 < q2.1 then (f_X1_begin N t k).bind (fun q4 => (f_X0_from N q2.2 x1).bind (fun q5 => (f_X0_end N q5.2 x1).bind (fun q6 => (f_X1_copy N q4.1 q4.2 q5.1 q6.1).bind (fun q7 => (f_X1_keep N q7.1 q7.2).bind (fun q8 => (f_X2_count N y).bind (fun q9 => (f_X4_settled N x q9.2 q8.2.1 q8.2.2 q6.2 q8.1 q9.1).bind (fun q10 => ex q10.1 (q10.2.1, q10.2.2.1, q10.2.2.2.1, q10.2.2.2.2.1, q10.2.2.2.2.2) (fun r11 => some (.inl r11, (q10.2.1, q10.2.2.1, q10.2.2.2.1, q10.2.2.2.2.1, q10.2.2.2.2.2)))))))))) else f_X4_matched_15 N x y t k q2.2)
abbrev KP_X4_matched_15 (p : Program) (l : Launch) (e : Env) (s : State) (m : MethodId) (args : Array Value) (below : List Frame) (meth : Method) (c : Code) (D : va_G) (cI cZ : ClassId) (a4 a2 a1 a3 a0 : Nat → Nat) (A : Nat → Prop) (res : Int32 ⊕ Nat) (u1 : St × St × St × St × St) (K : St → St → St → St → St → Option ((Int32 ⊕ Nat) × (St × St × St × St × St))) : Prop := ∀ (x y t k b : St) (H : Heap) (locs : List Loc) (ls : Array Slot), va_P D vwCl (wX4 a4 a2 a1 a3 a0 cI cZ (x, y, t, k, b)) H → va_D A (wX4 a4 a2 a1 a3 a0 cI cZ (x, y, t, k, b)) → va_S A s.heap H locs → lv_has ls 2 [] → K x y t k b = some (res, u1) → W p l e ({ frames := 7, cells := 1, slots := 6, locals := 107 } : Room) s m args below meth c H locs 0 0 (vx_MQ below (xI D cI cZ (wX4 a4 a2 a1 a3 a0 cI cZ) A res u1) (xX D cI cZ (wX4 a4 a2 a1 a3 a0 cI cZ) A res u1) args s 1 6 A) (F0 m 15 ls [])
set_option maxHeartbeats 4000000 in
set_option maxRecDepth 100000 in
theorem k_X4_matched_15 {p : Program} {l : Launch} {e : Env} {s : State} {m : MethodId} {args : Array Value} {below : List Frame} {meth : Method} {c : Code} {D : va_G} {cI cZ : ClassId} {sa : Nat → Nat} {a4 a2 a1 a3 a0 : Nat → Nat} {A : Nat → Prop} {res : Int32 ⊕ Nat} {u1 : St × St × St × St × St} (C0 : mX l p s m args meth c D cI cZ sa A cX4_matched 2 (some .int) wsX4_matched RX4) (N : Nat) : KP_X4_matched_15 p l e s m args below meth c D cI cZ a4 a2 a1 a3 a0 A res u1 (f_X4_matched_15 N) := by
  obtain ⟨⟨hx, hb, hml, hr, hown, hts, hlocks, hA, hK, hN⟩, hX, hlt, hT⟩ := id C0
  intro x y t k b H locs ls hP hD hS hl h
  unfold f_X4_matched_15 at h
  obtain ⟨rfl, rfl⟩ := so h
  exact x_throw (is := 219) (text := "the latest match made no such variable something") (cls := "java/lang/IndexOutOfBoundsException") (lv := []) C0 rfl (by decide +kernel) (by decide +kernel) xw_X4_matched_95 (by decide +kernel) (by decide +kernel) (by decide +kernel) (by decide +kernel) hP hD hS hl dX4_matched_15 dX4_matched_18 dX4_matched_19 dX4_matched_21 dX4_matched_24 (Nat.le_of_ble_eq_true rfl) (Nat.le_of_ble_eq_true rfl) (Nat.le_of_ble_eq_true rfl) (Nat.le_of_ble_eq_true rfl) (by decide) (by decide)
set_option maxHeartbeats 4000000 in
set_option maxRecDepth 100000 in
theorem c_X4_matched (l : Launch) (hlt : l.stackTraces = false) (D : va_G) (cI cZ : ClassId) (sa : Nat → Nat) (a4 a2 a1 a3 a0 : Nat → Nat) (N : Nat) (x y t k b : St) (x1 : Int32) : XI l yX4_matched wsX4_matched ({ frames := 7, cells := 1, slots := 6, locals := 107 } : Room) D cI cZ sa (wX4 a4 a2 a1 a3 a0 cI cZ) [.ref (a4 0), .int x1] (x, y, t, k, b) 1 6 (f_X4_matched N x y t k b x1) := by
  refine XI.of (cc := cX4_matched) (maxL := 2) (ret := (some .int)) (own := RX4) hlt (by decide) rfl rfl (Nat.le_of_ble_eq_true rfl) ?_
  intro res u1 h p e s m args below meth c A C0 H locs ls hP hD hS hl
  obtain ⟨⟨hx, hb, hml, hr, hown, hts, hlocks, hA, hK, hN⟩, hX, hlt, hT⟩ := id C0
  have hl : lv_has ls 2 [(0, .ref (a4 0)), (1, .int x1)] := hl
  unfold f_X4_matched at h
  refine lv_iload_n hx hb dX4_matched_0 rfl (lv_at hl 1 rfl) ?_
  refine lv_if_lt (tgt := 15) hx hb dX4_matched_1 (by decide) (fun hc1 => ?_) (fun hc1 => ?_)
  · rw [if_pos hc1] at h
    exact k_X4_matched_15 C0 N x y t k b _ _ _ hP hD hS (lv_sub hl [] rfl) h
  · rw [if_neg hc1] at h
    refine lv_iload_n hx hb dX4_matched_4 rfl (lv_at hl 1 rfl) ?_
    refine lv_aload_n hx hb dX4_matched_5 rfl (lv_at hl 0 rfl) ?_
    refine va_get (D := D) (ci := 4) (v := .ref (a0 0)) (C := RX4) (T := TX4) (N := 7) hx hb hts in_X4_matched_X4 hown hK hP 0 rfl rfl 2 (by decide) (hts (.fieldLink RX4 26 "TermLoom" "bindings" "LTermLoom$Bindings;") (by decide +kernel)) (fun _ h9 => h9) rfl dX4_matched_6 ?_
    obtain ⟨q2, hq2, h⟩ := ob h
    refine mg_i (ws' := wX4 a4 a2 a1 a3 a0 cI cZ (x, y, t, k, q2.2)) (wr := ((wX4o a4 a2 a1 a0 cI cZ x) ++ (wX2o a2 cI cZ y) ++ (wX1o a1 a3 cI cZ t) ++ (wX3o a3 cI cZ k) : va_W)) [22, 23, 24, 25, 26, 27, 28] [0, 1, 2, 3, 4, 5, 6, 7, 8, 9, 10, 11, 12, 13, 14, 15, 16, 17, 18, 19, 20, 21] [0, 1, 2, 3, 4, 5, 6, 7, 8, 9, 10, 11, 12, 13, 14, 15, 16, 17, 18, 19, 20, 21, 22, 23, 24, 25, 26, 27, 28] (va_runV (As := []) (rest := [.int x1]) ⟨hx, hb, hml, hown, hts⟩ (c_X0_count l D cI cZ a0 N b q2.1 q2.2 hq2 H.size) (cwV 0 hts gX4_matched_X0_count rfl rfl rfl (by decide +kernel) ⟨Nat.le_of_ble_eq_true rfl, Nat.le_of_ble_eq_true rfl⟩) (pV [22, 23, 24, 25, 26, 27, 28] hP hD hK hN rfl rfl rfl rfl) rfl rfl hl.1 rfl (lv_room (Nat.le_of_ble_eq_true rfl)) dX4_matched_9 ⟨Nat.le_of_ble_eq_true rfl, Nat.le_of_ble_eq_true rfl⟩) hP hD hS hA rfl rfl rfl (by decide) rfl rfl (fun H locs hP hD hS => ?_)
    refine lv_icmp_lt (tgt := 25) hx hb dX4_matched_12 (by decide) (fun hc3 => ?_) (fun hc3 => ?_)
    · rw [if_pos hc3] at h
      refine lv_aload_n hx hb dX4_matched_25 rfl (lv_at hl 0 rfl) ?_
      refine va_get (D := D) (ci := 4) (v := .ref (a1 0)) (C := RX4) (T := TX4) (N := 7) hx hb hts in_X4_matched_X4 hown hK hP 0 rfl rfl 1 (by decide) (hts (.fieldLink RX4 19 "TermLoom" "terms" "LTermLoom$TermStore;") (by decide +kernel)) (fun _ h9 => h9) rfl dX4_matched_26 ?_
      obtain ⟨q4, hq4, h⟩ := ob h
      refine mg_v (ws' := wX4 a4 a2 a1 a3 a0 cI cZ (x, y, q4.1, q4.2, q2.2)) (wr := ((wX4o a4 a2 a1 a0 cI cZ x) ++ (wX2o a2 cI cZ y) ++ (wX0o a0 cI cZ q2.2) : va_W)) [14, 15, 16, 17, 18, 19, 20, 21] [0, 1, 2, 3, 4, 5, 6, 7, 8, 9, 10, 11, 12, 13, 22, 23, 24, 25, 26, 27, 28] [0, 1, 2, 3, 4, 5, 6, 7, 8, 9, 10, 11, 12, 13, 21, 22, 23, 24, 25, 26, 27, 28, 14, 15, 16, 17, 18, 19, 20] (va_runV (As := []) (rest := []) ⟨hx, hb, hml, hown, hts⟩ (c_X1_begin l D cI cZ a1 a3 N t k q4 hq4 H.size) (cwV 0 hts gX4_matched_X1_begin rfl rfl rfl (by decide +kernel) ⟨Nat.le_of_ble_eq_true rfl, Nat.le_of_ble_eq_true rfl⟩) (pV [14, 15, 16, 17, 18, 19, 20, 21] hP hD hK hN rfl rfl rfl rfl) rfl rfl hl.1 rfl (lv_room (Nat.le_of_ble_eq_true rfl)) dX4_matched_29 ⟨Nat.le_of_ble_eq_true rfl, Nat.le_of_ble_eq_true rfl⟩) hP hD hS hA rfl rfl rfl (by decide) rfl rfl (fun H locs hP hD hS => ?_)
      refine lv_aload_n hx hb dX4_matched_32 rfl (lv_at hl 0 rfl) ?_
      refine va_get (D := D) (ci := 4) (v := .ref (a1 0)) (C := RX4) (T := TX4) (N := 7) hx hb hts in_X4_matched_X4 hown hK hP 0 rfl rfl 1 (by decide) (hts (.fieldLink RX4 19 "TermLoom" "terms" "LTermLoom$TermStore;") (by decide +kernel)) (fun _ h9 => h9) rfl dX4_matched_33 ?_
      refine lv_aload_n hx hb dX4_matched_36 rfl (lv_at hl 0 rfl) ?_
      refine va_get (D := D) (ci := 4) (v := .ref (a0 0)) (C := RX4) (T := TX4) (N := 7) hx hb hts in_X4_matched_X4 hown hK hP 0 rfl rfl 2 (by decide) (hts (.fieldLink RX4 26 "TermLoom" "bindings" "LTermLoom$Bindings;") (by decide +kernel)) (fun _ h9 => h9) rfl dX4_matched_37 ?_
      refine lv_iload_n hx hb dX4_matched_40 rfl (lv_at hl 1 rfl) ?_
      obtain ⟨q5, hq5, h⟩ := ob h
      refine mg_i (ws' := wX4 a4 a2 a1 a3 a0 cI cZ (x, y, q4.1, q4.2, q5.2)) (wr := ((wX4o a4 a2 a1 a0 cI cZ x) ++ (wX2o a2 cI cZ y) ++ (wX1o a1 a3 cI cZ q4.1) ++ (wX3o a3 cI cZ q4.2) : va_W)) [22, 23, 24, 25, 26, 27, 28] [0, 1, 2, 3, 4, 5, 6, 7, 8, 9, 10, 11, 12, 13, 14, 15, 16, 17, 18, 19, 20, 21] [0, 1, 2, 3, 4, 5, 6, 7, 8, 9, 10, 11, 12, 13, 14, 15, 16, 17, 18, 19, 20, 21, 22, 23, 24, 25, 26, 27, 28] (va_runV (As := [.int x1]) (rest := [.ref (a1 0)]) ⟨hx, hb, hml, hown, hts⟩ (c_X0_from l D cI cZ a0 N q2.2 x1 q5.1 q5.2 hq5 H.size) (cwV 1 hts gX4_matched_X0_from rfl rfl rfl (by decide +kernel) ⟨Nat.le_of_ble_eq_true rfl, Nat.le_of_ble_eq_true rfl⟩) (pV [22, 23, 24, 25, 26, 27, 28] hP hD hK hN rfl rfl rfl rfl) rfl rfl hl.1 rfl (lv_room (Nat.le_of_ble_eq_true rfl)) dX4_matched_41 ⟨Nat.le_of_ble_eq_true rfl, Nat.le_of_ble_eq_true rfl⟩) hP hD hS hA rfl rfl rfl (by decide) rfl rfl (fun H locs hP hD hS => ?_)
      refine lv_aload_n hx hb dX4_matched_44 rfl (lv_at hl 0 rfl) ?_
      refine va_get (D := D) (ci := 4) (v := .ref (a0 0)) (C := RX4) (T := TX4) (N := 7) hx hb hts in_X4_matched_X4 hown hK hP 0 rfl rfl 2 (by decide) (hts (.fieldLink RX4 26 "TermLoom" "bindings" "LTermLoom$Bindings;") (by decide +kernel)) (fun _ h9 => h9) rfl dX4_matched_45 ?_
      refine lv_iload_n hx hb dX4_matched_48 rfl (lv_at hl 1 rfl) ?_
      obtain ⟨q6, hq6, h⟩ := ob h
      refine mg_i (ws' := wX4 a4 a2 a1 a3 a0 cI cZ (x, y, q4.1, q4.2, q6.2)) (wr := ((wX4o a4 a2 a1 a0 cI cZ x) ++ (wX2o a2 cI cZ y) ++ (wX1o a1 a3 cI cZ q4.1) ++ (wX3o a3 cI cZ q4.2) : va_W)) [22, 23, 24, 25, 26, 27, 28] [0, 1, 2, 3, 4, 5, 6, 7, 8, 9, 10, 11, 12, 13, 14, 15, 16, 17, 18, 19, 20, 21] [0, 1, 2, 3, 4, 5, 6, 7, 8, 9, 10, 11, 12, 13, 14, 15, 16, 17, 18, 19, 20, 21, 22, 23, 24, 25, 26, 27, 28] (va_runV (As := [.int x1]) (rest := [.int q5.1, .ref (a1 0)]) ⟨hx, hb, hml, hown, hts⟩ (c_X0_end l D cI cZ a0 N q5.2 x1 q6.1 q6.2 hq6 H.size) (cwV 1 hts gX4_matched_X0_end rfl rfl rfl (by decide +kernel) ⟨Nat.le_of_ble_eq_true rfl, Nat.le_of_ble_eq_true rfl⟩) (pV [22, 23, 24, 25, 26, 27, 28] hP hD hK hN rfl rfl rfl rfl) rfl rfl hl.1 rfl (lv_room (Nat.le_of_ble_eq_true rfl)) dX4_matched_49 ⟨Nat.le_of_ble_eq_true rfl, Nat.le_of_ble_eq_true rfl⟩) hP hD hS hA rfl rfl rfl (by decide) rfl rfl (fun H locs hP hD hS => ?_)
      obtain ⟨q7, hq7, h⟩ := ob h
      refine mg_v (ws' := wX4 a4 a2 a1 a3 a0 cI cZ (x, y, q7.1, q7.2, q6.2)) (wr := ((wX4o a4 a2 a1 a0 cI cZ x) ++ (wX2o a2 cI cZ y) ++ (wX0o a0 cI cZ q6.2) : va_W)) [14, 15, 16, 17, 18, 19, 20, 21] [0, 1, 2, 3, 4, 5, 6, 7, 8, 9, 10, 11, 12, 13, 22, 23, 24, 25, 26, 27, 28] [0, 1, 2, 3, 4, 5, 6, 7, 8, 9, 10, 11, 12, 13, 21, 22, 23, 24, 25, 26, 27, 28, 14, 15, 16, 17, 18, 19, 20] (va_runV (As := [.int q5.1, .int q6.1]) (rest := []) ⟨hx, hb, hml, hown, hts⟩ (c_X1_copy l D cI cZ a1 a3 N q4.1 q4.2 q5.1 q6.1 q7 hq7 H.size) (cwV 2 hts gX4_matched_X1_copy rfl rfl rfl (by decide +kernel) ⟨Nat.le_of_ble_eq_true rfl, Nat.le_of_ble_eq_true rfl⟩) (pV [14, 15, 16, 17, 18, 19, 20, 21] hP hD hK hN rfl rfl rfl rfl) rfl rfl hl.1 rfl (lv_room (Nat.le_of_ble_eq_true rfl)) dX4_matched_52 ⟨Nat.le_of_ble_eq_true rfl, Nat.le_of_ble_eq_true rfl⟩) hP hD hS hA rfl rfl rfl (by decide) rfl rfl (fun H locs hP hD hS => ?_)
      refine lv_aload_n hx hb dX4_matched_55 rfl (lv_at hl 0 rfl) ?_
      refine lv_aload_n hx hb dX4_matched_56 rfl (lv_at hl 0 rfl) ?_
      refine va_get (D := D) (ci := 4) (v := .ref (a1 0)) (C := RX4) (T := TX4) (N := 7) hx hb hts in_X4_matched_X4 hown hK hP 0 rfl rfl 1 (by decide) (hts (.fieldLink RX4 19 "TermLoom" "terms" "LTermLoom$TermStore;") (by decide +kernel)) (fun _ h9 => h9) rfl dX4_matched_57 ?_
      obtain ⟨q8, hq8, h⟩ := ob h
      refine mg_i (ws' := wX4 a4 a2 a1 a3 a0 cI cZ (x, y, q8.2.1, q8.2.2, q6.2)) (wr := ((wX4o a4 a2 a1 a0 cI cZ x) ++ (wX2o a2 cI cZ y) ++ (wX0o a0 cI cZ q6.2) : va_W)) [14, 15, 16, 17, 18, 19, 20, 21] [0, 1, 2, 3, 4, 5, 6, 7, 8, 9, 10, 11, 12, 13, 22, 23, 24, 25, 26, 27, 28] [0, 1, 2, 3, 4, 5, 6, 7, 8, 9, 10, 11, 12, 13, 21, 22, 23, 24, 25, 26, 27, 28, 14, 15, 16, 17, 18, 19, 20] (va_runV (As := []) (rest := [.ref (a4 0)]) ⟨hx, hb, hml, hown, hts⟩ (c_X1_keep l D cI cZ a1 a3 N q7.1 q7.2 q8.1 q8.2 hq8 H.size) (cwV 0 hts gX4_matched_X1_keep rfl rfl rfl (by decide +kernel) ⟨Nat.le_of_ble_eq_true rfl, Nat.le_of_ble_eq_true rfl⟩) (pV [14, 15, 16, 17, 18, 19, 20, 21] hP hD hK hN rfl rfl rfl rfl) rfl rfl hl.1 rfl (lv_room (Nat.le_of_ble_eq_true rfl)) dX4_matched_60 ⟨Nat.le_of_ble_eq_true rfl, Nat.le_of_ble_eq_true rfl⟩) hP hD hS hA rfl rfl rfl (by decide) rfl rfl (fun H locs hP hD hS => ?_)
      refine lv_aload_n hx hb dX4_matched_63 rfl (lv_at hl 0 rfl) ?_
      refine va_get (D := D) (ci := 4) (v := .ref (a2 0)) (C := RX4) (T := TX4) (N := 7) hx hb hts in_X4_matched_X4 hown hK hP 0 rfl rfl 0 (by decide) (hts (.fieldLink RX4 10 "TermLoom" "types" "LTermLoom$TypeTable;") (by decide +kernel)) (fun _ h9 => h9) rfl dX4_matched_64 ?_
      obtain ⟨q9, hq9, h⟩ := ob h
      refine mg_i (ws' := wX4 a4 a2 a1 a3 a0 cI cZ (x, q9.2, q8.2.1, q8.2.2, q6.2)) (wr := ((wX4o a4 a2 a1 a0 cI cZ x) ++ (wX1o a1 a3 cI cZ q8.2.1) ++ (wX3o a3 cI cZ q8.2.2) ++ (wX0o a0 cI cZ q6.2) : va_W)) [3, 4, 5, 6, 7, 8, 9, 10, 11, 12, 13] [0, 1, 2, 14, 15, 16, 17, 18, 19, 20, 21, 22, 23, 24, 25, 26, 27, 28] [0, 1, 2, 18, 19, 20, 21, 22, 23, 24, 25, 26, 27, 28, 3, 4, 5, 6, 7, 8, 9, 10, 11, 12, 13, 14, 15, 16, 17] (va_runV (As := []) (rest := [.int q8.1, .ref (a4 0)]) ⟨hx, hb, hml, hown, hts⟩ (c_X2_count l D cI cZ a2 N y q9.1 q9.2 hq9 H.size) (cwV 0 hts gX4_matched_X2_count rfl rfl rfl (by decide +kernel) ⟨Nat.le_of_ble_eq_true rfl, Nat.le_of_ble_eq_true rfl⟩) (pV [3, 4, 5, 6, 7, 8, 9, 10, 11, 12, 13] hP hD hK hN rfl rfl rfl rfl) rfl rfl hl.1 rfl (lv_room (Nat.le_of_ble_eq_true rfl)) dX4_matched_67 ⟨Nat.le_of_ble_eq_true rfl, Nat.le_of_ble_eq_true rfl⟩) hP hD hS hA rfl rfl rfl (by decide) rfl rfl (fun H locs hP hD hS => ?_)
      obtain ⟨q10, hq10, h⟩ := ob h
      refine mx_i (uo := (q10.2.1, q10.2.2.1, q10.2.2.2.1, q10.2.2.2.2.1, q10.2.2.2.2.2)) (wr := ([] : va_W)) [0, 1, 2, 3, 4, 5, 6, 7, 8, 9, 10, 11, 12, 13, 14, 15, 16, 17, 18, 19, 20, 21, 22, 23, 24, 25, 26, 27, 28] [] [0, 1, 2, 3, 4, 5, 6, 7, 8, 9, 10, 11, 12, 13, 14, 15, 16, 17, 18, 19, 20, 21, 22, 23, 24, 25, 26, 27, 28] (vx_runV (As := [.int q8.1, .int q9.1]) (rest := []) ⟨hx, hb, hml, hown, hts⟩ (c_X4_settled l hlt D cI cZ sa a4 a2 a1 a3 a0 N x q9.2 q8.2.1 q8.2.2 q6.2 q8.1 q9.1 q10.1 q10.2 hq10 H.size) (cwV 2 hts gX4_matched_X4_settled rfl rfl rfl (by decide +kernel) ⟨Nat.le_of_ble_eq_true rfl, Nat.le_of_ble_eq_true rfl⟩) (pXV [0, 1, 2, 3, 4, 5, 6, 7, 8, 9, 10, 11, 12, 13, 14, 15, 16, 17, 18, 19, 20, 21, 22, 23, 24, 25, 26, 27, 28] hP hD hS hA hK hN hX rfl rfl rfl rfl) rfl rfl hl.1 rfl (lv_room (Nat.le_of_ble_eq_true rfl)) dX4_matched_70 ⟨Nat.le_of_ble_eq_true rfl, Nat.le_of_ble_eq_true rfl⟩) hT hlocks hK hP hD hS hA rfl rfl rfl (by decide) rfl rfl (by decide) (by decide) (fun k9 hk9 => by rw [hk9] at h; exact h) (fun r11 hr9 H locs hP hD hS => ?_)
      rw [hr9, ex_inl] at h
      obtain ⟨rfl, rfl⟩ := so h
      exact xret_i C0 hP hD hS dX4_matched_73 (by decide) (by decide)
    · rw [if_neg hc3] at h
      exact k_X4_matched_15 C0 N x y t k q2.2 _ _ _ hP hD hS (lv_sub hl [] rfl) h
