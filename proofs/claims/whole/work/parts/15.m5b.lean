theorem in_X5_type_X5 : ∀ w ∈ u_ws RX5 TX5 30, w ∈ wsX5_type := by decide +kernel
def f_X5_type_144 (N : Nat) (σ : St) (x5 : Int32) : Option (Int32 × St) := some (x5, σ)
def f_X5_type_122 (N : Nat) (σ : St) (x4 s2 s3 s4 : Int32) : Option (Int32 × St) := (f_X5_node N σ s2 s3 s4).bind (fun q1 => (f_X5_keepType N q1.2 q1.1 3).bind (fun q2 => if (q2.2 0 0) ≤ 0 then f_X5_type_144 N q2.2 q2.1 else (f_X5_cut N q2.2 x4).bind (fun q4 => f_X5_type_144 N q4 q2.1)))
def f_X5_type_102 (N : Nat) (σ : St) (x1 x3 x4 s2 s3 : Int32) : Option (Int32 × St) := if x1 < 0 ∨ 40 ≤ (x1).toNatClampNeg then none else if (σ 2 (x1).toNatClampNeg) ≤ 1 then f_X5_type_122 N σ x4 s2 s3 (-1) else if x3 < 0 ∨ 4200 ≤ (x3).toNatClampNeg then none else f_X5_type_122 N σ x4 s2 s3 (σ 15 (x3).toNatClampNeg)
def f_X5_type_62 (N : Nat) (σ : St) (x1 x2 x3 s1 : Int32) : Option (Int32 × St) := bnd (up2 σ 0 0 s1) (fun σ1 => if (σ1 0 0) ≤ 0 then if x1 < 0 ∨ 40 ≤ (x1).toNatClampNeg then none else if (σ1 2 (x1).toNatClampNeg) ≤ 0 then f_X5_type_102 N σ1 x1 x3 (σ1 5 0) x1 (-1) else if x2 < 0 ∨ 4200 ≤ (x2).toNatClampNeg then none else f_X5_type_102 N σ1 x1 x3 (σ1 5 0) x1 (σ1 15 (x2).toNatClampNeg) else some (0, σ1))
def f_X5_type_61 (N : Nat) (σ : St) (x1 x2 x3 : Int32) : Option (Int32 × St) := f_X5_type_62 N σ x1 x2 x3 0
def f_X5_type_57 (N : Nat) (σ : St) (x1 x2 x3 : Int32) : Option (Int32 × St) := f_X5_type_62 N σ x1 x2 x3 2
def f_X5_type_36 (N : Nat) (σ : St) (x1 x2 x3 : Int32) : Option (Int32 × St) := if x1 < 0 ∨ 40 ≤ (x1).toNatClampNeg then none else if (σ 2 (x1).toNatClampNeg) ≤ 1 then f_X5_type_61 N σ x1 x2 x3 else (f_X5_outside N x3 (σ 13 0)).bind (fun q2 => if q2.1 = 0 then f_X5_type_61 N σ x1 x2 x3 else f_X5_type_57 N σ x1 x2 x3)
def f_X5_type (N : Nat) (σ : St) (x1 x2 x3 : Int32) : Option (Int32 × St) := (f_X5_outside N x1 (σ 1 0)).bind (fun q1 => if q1.1 = 0 then if x1 < 0 ∨ 40 ≤ (x1).toNatClampNeg then none else if (σ 2 (x1).toNatClampNeg) ≤ 0 then f_X5_type_36 N σ x1 x2 x3 else (f_X5_outside N x2 (σ 13 0)).bind (fun q4 => if q4.1 = 0 then f_X5_type_36 N σ x1 x2 x3 else f_X5_type_57 N σ x1 x2 x3) else f_X5_type_62 N σ x1 x2 x3 1)
abbrev KP_X5_type_144 (p : Program) (l : Launch) (e : Env) (s : State) (m : MethodId) (args : Array Value) (below : List Frame) (meth : Method) (c : Code) (D : va_G) (cI cZ : ClassId) (a5 : Nat → Nat) (A : Nat → Prop) (r : Int32) (u1 : St) (K : St → Int32 → Option (Int32 × St)) : Prop := ∀ (σ : St) (x5 : Int32) (H : Heap) (locs : List Loc) (ls : Array Slot), va_P D vwCl (wX5 a5 cI cZ σ) H → va_D A (wX5 a5 cI cZ σ) → va_S A s.heap H locs → lv_has ls 6 [(5, .int x5)] → K σ x5 = some (r, u1) → W p l e ({ frames := 2, cells := 0, slots := 0, locals := 48 } : Room) s m args below meth c H locs 0 0 (QI below args s D cI cZ (wX5 a5 cI cZ) A r u1) (F0 m 144 ls [])
abbrev KP_X5_type_122 (p : Program) (l : Launch) (e : Env) (s : State) (m : MethodId) (args : Array Value) (below : List Frame) (meth : Method) (c : Code) (D : va_G) (cI cZ : ClassId) (a5 : Nat → Nat) (A : Nat → Prop) (r : Int32) (u1 : St) (K : St → Int32 → Int32 → Int32 → Int32 → Option (Int32 × St)) : Prop := ∀ (σ : St) (x4 s2 s3 s4 : Int32) (H : Heap) (locs : List Loc) (ls : Array Slot), va_P D vwCl (wX5 a5 cI cZ σ) H → va_D A (wX5 a5 cI cZ σ) → va_S A s.heap H locs → lv_has ls 6 [(0, .ref (a5 0)), (4, .int x4)] → K σ x4 s2 s3 s4 = some (r, u1) → W p l e ({ frames := 2, cells := 0, slots := 0, locals := 48 } : Room) s m args below meth c H locs 0 0 (QI below args s D cI cZ (wX5 a5 cI cZ) A r u1) (F0 m 122 ls [.int s4, .int s3, .int s2, .ref (a5 0), .ref (a5 0)])
abbrev KP_X5_type_102 (p : Program) (l : Launch) (e : Env) (s : State) (m : MethodId) (args : Array Value) (below : List Frame) (meth : Method) (c : Code) (D : va_G) (cI cZ : ClassId) (a5 : Nat → Nat) (A : Nat → Prop) (r : Int32) (u1 : St) (K : St → Int32 → Int32 → Int32 → Int32 → Int32 → Option (Int32 × St)) : Prop := ∀ (σ : St) (x1 x3 x4 s2 s3 : Int32) (H : Heap) (locs : List Loc) (ls : Array Slot), va_P D vwCl (wX5 a5 cI cZ σ) H → va_D A (wX5 a5 cI cZ σ) → va_S A s.heap H locs → lv_has ls 6 [(0, .ref (a5 0)), (1, .int x1), (3, .int x3), (4, .int x4)] → K σ x1 x3 x4 s2 s3 = some (r, u1) → W p l e ({ frames := 2, cells := 0, slots := 0, locals := 48 } : Room) s m args below meth c H locs 0 0 (QI below args s D cI cZ (wX5 a5 cI cZ) A r u1) (F0 m 102 ls [.int s3, .int s2, .ref (a5 0), .ref (a5 0)])
abbrev KP_X5_type_62 (p : Program) (l : Launch) (e : Env) (s : State) (m : MethodId) (args : Array Value) (below : List Frame) (meth : Method) (c : Code) (D : va_G) (cI cZ : ClassId) (a5 : Nat → Nat) (A : Nat → Prop) (r : Int32) (u1 : St) (K : St → Int32 → Int32 → Int32 → Int32 → Option (Int32 × St)) : Prop := ∀ (σ : St) (x1 x2 x3 s1 : Int32) (H : Heap) (locs : List Loc) (ls : Array Slot), va_P D vwCl (wX5 a5 cI cZ σ) H → va_D A (wX5 a5 cI cZ σ) → va_S A s.heap H locs → lv_has ls 6 [(0, .ref (a5 0)), (1, .int x1), (2, .int x2), (3, .int x3)] → K σ x1 x2 x3 s1 = some (r, u1) → W p l e ({ frames := 2, cells := 0, slots := 0, locals := 48 } : Room) s m args below meth c H locs 0 0 (QI below args s D cI cZ (wX5 a5 cI cZ) A r u1) (F0 m 62 ls [.int s1, .ref (a5 0)])
abbrev KP_X5_type_61 (p : Program) (l : Launch) (e : Env) (s : State) (m : MethodId) (args : Array Value) (below : List Frame) (meth : Method) (c : Code) (D : va_G) (cI cZ : ClassId) (a5 : Nat → Nat) (A : Nat → Prop) (r : Int32) (u1 : St) (K : St → Int32 → Int32 → Int32 → Option (Int32 × St)) : Prop := ∀ (σ : St) (x1 x2 x3 : Int32) (H : Heap) (locs : List Loc) (ls : Array Slot), va_P D vwCl (wX5 a5 cI cZ σ) H → va_D A (wX5 a5 cI cZ σ) → va_S A s.heap H locs → lv_has ls 6 [(0, .ref (a5 0)), (1, .int x1), (2, .int x2), (3, .int x3)] → K σ x1 x2 x3 = some (r, u1) → W p l e ({ frames := 2, cells := 0, slots := 0, locals := 48 } : Room) s m args below meth c H locs 0 0 (QI below args s D cI cZ (wX5 a5 cI cZ) A r u1) (F0 m 61 ls [.ref (a5 0)])
abbrev KP_X5_type_57 (p : Program) (l : Launch) (e : Env) (s : State) (m : MethodId) (args : Array Value) (below : List Frame) (meth : Method) (c : Code) (D : va_G) (cI cZ : ClassId) (a5 : Nat → Nat) (A : Nat → Prop) (r : Int32) (u1 : St) (K : St → Int32 → Int32 → Int32 → Option (Int32 × St)) : Prop := ∀ (σ : St) (x1 x2 x3 : Int32) (H : Heap) (locs : List Loc) (ls : Array Slot), va_P D vwCl (wX5 a5 cI cZ σ) H → va_D A (wX5 a5 cI cZ σ) → va_S A s.heap H locs → lv_has ls 6 [(0, .ref (a5 0)), (1, .int x1), (2, .int x2), (3, .int x3)] → K σ x1 x2 x3 = some (r, u1) → W p l e ({ frames := 2, cells := 0, slots := 0, locals := 48 } : Room) s m args below meth c H locs 0 0 (QI below args s D cI cZ (wX5 a5 cI cZ) A r u1) (F0 m 57 ls [.ref (a5 0)])
abbrev KP_X5_type_36 (p : Program) (l : Launch) (e : Env) (s : State) (m : MethodId) (args : Array Value) (below : List Frame) (meth : Method) (c : Code) (D : va_G) (cI cZ : ClassId) (a5 : Nat → Nat) (A : Nat → Prop) (r : Int32) (u1 : St) (K : St → Int32 → Int32 → Int32 → Option (Int32 × St)) : Prop := ∀ (σ : St) (x1 x2 x3 : Int32) (H : Heap) (locs : List Loc) (ls : Array Slot), va_P D vwCl (wX5 a5 cI cZ σ) H → va_D A (wX5 a5 cI cZ σ) → va_S A s.heap H locs → lv_has ls 6 [(0, .ref (a5 0)), (1, .int x1), (2, .int x2), (3, .int x3)] → K σ x1 x2 x3 = some (r, u1) → W p l e ({ frames := 2, cells := 0, slots := 0, locals := 48 } : Room) s m args below meth c H locs 0 0 (QI below args s D cI cZ (wX5 a5 cI cZ) A r u1) (F0 m 36 ls [.ref (a5 0)])
set_option maxHeartbeats 4000000 in
set_option maxRecDepth 100000 in
theorem k_X5_type_144 {p : Program} {l : Launch} {e : Env} {s : State} {m : MethodId} {args : Array Value} {below : List Frame} {meth : Method} {c : Code} {D : va_G} {cI cZ : ClassId} {a5 : Nat → Nat} {A : Nat → Prop} {r : Int32} {u1 : St} (C0 : mB p s m args meth c D cI cZ A cX5_type 6 (some .int) wsX5_type RX5) (N : Nat) : KP_X5_type_144 p l e s m args below meth c D cI cZ a5 A r u1 (f_X5_type_144 N) := by
  obtain ⟨hx, hb, hml, hr, hown, hts, hlocks, hA, hK, hN⟩ := id C0
  intro σ x5 H locs ls hP hD hS hl h
  unfold f_X5_type_144 at h
  refine lv_iload hx hb dX5_type_144 (lv_at hl 0 rfl) ?_
  obtain ⟨rfl, rfl⟩ := so h
  exact ret_i C0 hP hD hS dX5_type_146
set_option maxHeartbeats 4000000 in
set_option maxRecDepth 100000 in
theorem k_X5_type_122 {p : Program} {l : Launch} {e : Env} {s : State} {m : MethodId} {args : Array Value} {below : List Frame} {meth : Method} {c : Code} {D : va_G} {cI cZ : ClassId} {a5 : Nat → Nat} {A : Nat → Prop} {r : Int32} {u1 : St} (C0 : mB p s m args meth c D cI cZ A cX5_type 6 (some .int) wsX5_type RX5) (N : Nat) : KP_X5_type_122 p l e s m args below meth c D cI cZ a5 A r u1 (f_X5_type_122 N) := by
  obtain ⟨hx, hb, hml, hr, hown, hts, hlocks, hA, hK, hN⟩ := id C0
  intro σ x4 s2 s3 s4 H locs ls hP hD hS hl h
  unfold f_X5_type_122 at h
  obtain ⟨q1, hq1, h⟩ := ob h
  refine mc_i (ws' := wX5 a5 cI cZ q1.2) (wr := ([] : va_W)) [0, 1, 2, 3, 4, 5, 6, 7, 8, 9, 10, 11, 12, 13, 14, 15, 16, 17, 18, 19, 20, 21, 22] [] [0, 1, 2, 3, 4, 5, 6, 7, 8, 9, 10, 11, 12, 13, 14, 15, 16, 17, 18, 19, 20, 21, 22] (va_runV (As := [.int s2, .int s3, .int s4]) (rest := [.ref (a5 0)]) ⟨hx, hb, hml, hown, hts⟩ (c_X5_node l D cI cZ a5 N σ s2 s3 s4 q1.1 q1.2 hq1 H.size) (cwV 3 hts gX5_type_X5_node rfl rfl rfl (by decide +kernel) ⟨Nat.le_of_ble_eq_true rfl, Nat.le_of_ble_eq_true rfl⟩) (pV [0, 1, 2, 3, 4, 5, 6, 7, 8, 9, 10, 11, 12, 13, 14, 15, 16, 17, 18, 19, 20, 21, 22] hP hD hK hN rfl rfl rfl rfl) rfl rfl hl.1 rfl (lv_room (Nat.le_of_ble_eq_true rfl)) dX5_type_122 ⟨Nat.le_of_ble_eq_true rfl, Nat.le_of_ble_eq_true rfl⟩) hP hD hS hA rfl rfl rfl (by decide) rfl rfl (fun H locs hP hD hS => ?_)
  refine lv_iconst (v := 3) hx hb dX5_type_125 rfl ?_
  obtain ⟨q2, hq2, h⟩ := ob h
  refine mc_i (ws' := wX5 a5 cI cZ q2.2) (wr := ([] : va_W)) [0, 1, 2, 3, 4, 5, 6, 7, 8, 9, 10, 11, 12, 13, 14, 15, 16, 17, 18, 19, 20, 21, 22] [] [0, 1, 2, 3, 4, 5, 6, 7, 8, 9, 10, 11, 12, 13, 14, 15, 16, 17, 18, 19, 20, 21, 22] (va_runV (As := [.int q1.1, .int 3]) (rest := []) ⟨hx, hb, hml, hown, hts⟩ (c_X5_keepType l D cI cZ a5 N q1.2 q1.1 3 q2.1 q2.2 hq2 H.size) (cwV 2 hts gX5_type_X5_keepType rfl rfl rfl (by decide +kernel) ⟨Nat.le_of_ble_eq_true rfl, Nat.le_of_ble_eq_true rfl⟩) (pV [0, 1, 2, 3, 4, 5, 6, 7, 8, 9, 10, 11, 12, 13, 14, 15, 16, 17, 18, 19, 20, 21, 22] hP hD hK hN rfl rfl rfl rfl) rfl rfl hl.1 rfl (lv_room (Nat.le_of_ble_eq_true rfl)) dX5_type_126 ⟨Nat.le_of_ble_eq_true rfl, Nat.le_of_ble_eq_true rfl⟩) hP hD hS hA rfl rfl rfl (by decide) rfl rfl (fun H locs hP hD hS => ?_)
  refine lv_istore (lv' := [(5, .int q2.1), (0, .ref (a5 0)), (4, .int x4)]) hx hb dX5_type_129 hl (by decide) rfl (fun ls hl => ?_)
  refine lv_aload_n hx hb dX5_type_131 rfl (lv_at hl 1 rfl) ?_
  refine va_get (D := D) (ci := 5) (v := .int (q2.2 0 0)) (C := RX5) (T := TX5) (N := 30) hx hb hts in_X5_type_X5 hown hK hP 0 rfl rfl 0 (by decide) (hts (.fieldLink RX5 85 "TermLoomModel" "code" "I") (by decide +kernel)) (fun _ h9 => h9) rfl dX5_type_132 ?_
  refine lv_if_le (tgt := 144) hx hb dX5_type_135 (by decide) (fun hc3 => ?_) (fun hc3 => ?_)
  · rw [if_pos hc3] at h
    exact k_X5_type_144 C0 N q2.2 q2.1 _ _ _ hP hD hS (lv_sub hl [0] rfl) h
  · rw [if_neg hc3] at h
    refine lv_aload_n hx hb dX5_type_138 rfl (lv_at hl 1 rfl) ?_
    refine lv_iload hx hb dX5_type_139 (lv_at hl 2 rfl) ?_
    obtain ⟨q4, hq4, h⟩ := ob h
    refine mc_v (ws' := wX5 a5 cI cZ q4) (wr := ([] : va_W)) [0, 1, 2, 3, 4, 5, 6, 7, 8, 9, 10, 11, 12, 13, 14, 15, 16, 17, 18, 19, 20, 21, 22] [] [0, 1, 2, 3, 4, 5, 6, 7, 8, 9, 10, 11, 12, 13, 14, 15, 16, 17, 18, 19, 20, 21, 22] (va_runV (As := [.int x4]) (rest := []) ⟨hx, hb, hml, hown, hts⟩ (c_X5_cut l D cI cZ a5 N q2.2 x4 q4 hq4 H.size) (cwV 1 hts gX5_type_X5_cut rfl rfl rfl (by decide +kernel) ⟨Nat.le_of_ble_eq_true rfl, Nat.le_of_ble_eq_true rfl⟩) (pV [0, 1, 2, 3, 4, 5, 6, 7, 8, 9, 10, 11, 12, 13, 14, 15, 16, 17, 18, 19, 20, 21, 22] hP hD hK hN rfl rfl rfl rfl) rfl rfl hl.1 rfl (lv_room (Nat.le_of_ble_eq_true rfl)) dX5_type_141 ⟨Nat.le_of_ble_eq_true rfl, Nat.le_of_ble_eq_true rfl⟩) hP hD hS hA rfl rfl rfl (by decide) rfl rfl (fun H locs hP hD hS => ?_)
    exact k_X5_type_144 C0 N q4 q2.1 _ _ _ hP hD hS (lv_sub hl [0] rfl) h
set_option maxHeartbeats 4000000 in
set_option maxRecDepth 100000 in
theorem k_X5_type_102 {p : Program} {l : Launch} {e : Env} {s : State} {m : MethodId} {args : Array Value} {below : List Frame} {meth : Method} {c : Code} {D : va_G} {cI cZ : ClassId} {a5 : Nat → Nat} {A : Nat → Prop} {r : Int32} {u1 : St} (C0 : mB p s m args meth c D cI cZ A cX5_type 6 (some .int) wsX5_type RX5) (N : Nat) : KP_X5_type_102 p l e s m args below meth c D cI cZ a5 A r u1 (f_X5_type_102 N) := by
  obtain ⟨hx, hb, hml, hr, hown, hts, hlocks, hA, hK, hN⟩ := id C0
  intro σ x1 x3 x4 s2 s3 H locs ls hP hD hS hl h
  unfold f_X5_type_102 at h
  refine lv_aload_n hx hb dX5_type_102 rfl (lv_at hl 0 rfl) ?_
  refine va_get (D := D) (ci := 5) (v := .ref (a5 3)) (C := RX5) (T := TX5) (N := 30) hx hb hts in_X5_type_X5 hown hK hP 0 rfl rfl 2 (by decide) (hts (.fieldLink RX5 13 "TermLoomModel" "takes" "[I") (by decide +kernel)) (fun _ h9 => h9) rfl dX5_type_103 ?_
  refine lv_iload_n hx hb dX5_type_106 rfl (lv_at hl 1 rfl) ?_
  by_cases hi : x1 < 0 ∨ 40 ≤ (x1).toNatClampNeg
  · rw [if_pos hi] at h; exact no h
  rw [if_neg hi] at h
  refine va_iald (f := (σ 2)) hx hb hK hP 1 0 rfl rfl (i := x1) hi dX5_type_107 ?_
  refine lv_iconst (v := 1) hx hb dX5_type_108 rfl ?_
  refine lv_icmp_le (tgt := 121) hx hb dX5_type_109 (by decide) (fun hc1 => ?_) (fun hc1 => ?_)
  · rw [if_pos hc1] at h
    refine lv_iconst (v := (-1)) hx hb dX5_type_121 rfl ?_
    exact k_X5_type_122 C0 N σ x4 s2 s3 (-1) _ _ _ hP hD hS (lv_sub hl [0, 3] rfl) h
  · rw [if_neg hc1] at h
    refine lv_aload_n hx hb dX5_type_112 rfl (lv_at hl 0 rfl) ?_
    refine va_get (D := D) (ci := 5) (v := .ref (a5 16)) (C := RX5) (T := TX5) (N := 30) hx hb hts in_X5_type_X5 hown hK hP 0 rfl rfl 15 (by decide) (hts (.fieldLink RX5 41 "TermLoomModel" "typeAt" "[I") (by decide +kernel)) (fun _ h9 => h9) rfl dX5_type_113 ?_
    refine lv_iload_n hx hb dX5_type_116 rfl (lv_at hl 2 rfl) ?_
    by_cases hi : x3 < 0 ∨ 4200 ≤ (x3).toNatClampNeg
    · rw [if_pos hi] at h; exact no h
    rw [if_neg hi] at h
    refine va_iald (f := (σ 15)) hx hb hK hP 10 0 rfl rfl (i := x3) hi dX5_type_117 ?_
    refine lv_goto (tgt := 122) hx hb dX5_type_118 (by decide) ?_
    exact k_X5_type_122 C0 N σ x4 s2 s3 (σ 15 (x3).toNatClampNeg) _ _ _ hP hD hS (lv_sub hl [0, 3] rfl) h
set_option maxHeartbeats 4000000 in
set_option maxRecDepth 100000 in
theorem k_X5_type_62 {p : Program} {l : Launch} {e : Env} {s : State} {m : MethodId} {args : Array Value} {below : List Frame} {meth : Method} {c : Code} {D : va_G} {cI cZ : ClassId} {a5 : Nat → Nat} {A : Nat → Prop} {r : Int32} {u1 : St} (C0 : mB p s m args meth c D cI cZ A cX5_type 6 (some .int) wsX5_type RX5) (N : Nat) : KP_X5_type_62 p l e s m args below meth c D cI cZ a5 A r u1 (f_X5_type_62 N) := by
  obtain ⟨hx, hb, hml, hr, hown, hts, hlocks, hA, hK, hN⟩ := id C0
  intro σ x1 x2 x3 s1 H locs ls hP hD hS hl h
  unfold f_X5_type_62 at h
  refine va_put (D := D) (ci := 5) (v := .int s1) (ty := .int) (C := RX5) (T := TX5) (N := 30) hx hb hts in_X5_type_X5 tyX5 tyX5_ok nmX5 hown hK hP hD hS 0 rfl rfl 0 (by decide) (hts (.fieldLink RX5 85 "TermLoomModel" "code" "I") (by decide +kernel)) (fun _ h9 => h9) rfl (by decide +kernel) rfl rfl (Nat.le_of_ble_eq_true rfl) dX5_type_62 (fun H locs hP hD hS => ?_)
  obtain ⟨σ1, eσ1, h⟩ := bn h
  have hP : va_P D vwCl (wX5 a5 cI cZ σ1) H := by rw [eσ1]; exact hP
  have hD : va_D A (wX5 a5 cI cZ σ1) := by rw [eσ1]; exact hD
  refine lv_aload_n hx hb dX5_type_65 rfl (lv_at hl 0 rfl) ?_
  refine va_get (D := D) (ci := 5) (v := .int (σ1 0 0)) (C := RX5) (T := TX5) (N := 30) hx hb hts in_X5_type_X5 hown hK hP 0 rfl rfl 0 (by decide) (hts (.fieldLink RX5 85 "TermLoomModel" "code" "I") (by decide +kernel)) (fun _ h9 => h9) rfl dX5_type_66 ?_
  refine lv_if_le (tgt := 74) hx hb dX5_type_69 (by decide) (fun hc2 => ?_) (fun hc2 => ?_)
  · rw [if_pos hc2] at h
    refine lv_aload_n hx hb dX5_type_74 rfl (lv_at hl 0 rfl) ?_
    refine va_get (D := D) (ci := 5) (v := .int (σ1 5 0)) (C := RX5) (T := TX5) (N := 30) hx hb hts in_X5_type_X5 hown hK hP 0 rfl rfl 5 (by decide) (hts (.fieldLink RX5 96 "TermLoomModel" "nodes" "I") (by decide +kernel)) (fun _ h9 => h9) rfl dX5_type_75 ?_
    refine lv_istore (lv' := [(4, .int (σ1 5 0)), (0, .ref (a5 0)), (1, .int x1), (2, .int x2), (3, .int x3)]) hx hb dX5_type_78 hl (by decide) rfl (fun ls hl => ?_)
    refine lv_aload_n hx hb dX5_type_80 rfl (lv_at hl 1 rfl) ?_
    refine lv_aload_n hx hb dX5_type_81 rfl (lv_at hl 1 rfl) ?_
    refine lv_iload_n hx hb dX5_type_82 rfl (lv_at hl 2 rfl) ?_
    refine lv_aload_n hx hb dX5_type_83 rfl (lv_at hl 1 rfl) ?_
    refine va_get (D := D) (ci := 5) (v := .ref (a5 3)) (C := RX5) (T := TX5) (N := 30) hx hb hts in_X5_type_X5 hown hK hP 0 rfl rfl 2 (by decide) (hts (.fieldLink RX5 13 "TermLoomModel" "takes" "[I") (by decide +kernel)) (fun _ h9 => h9) rfl dX5_type_84 ?_
    refine lv_iload_n hx hb dX5_type_87 rfl (lv_at hl 2 rfl) ?_
    by_cases hi : x1 < 0 ∨ 40 ≤ (x1).toNatClampNeg
    · rw [if_pos hi] at h; exact no h
    rw [if_neg hi] at h
    refine va_iald (f := (σ1 2)) hx hb hK hP 1 0 rfl rfl (i := x1) hi dX5_type_88 ?_
    refine lv_if_le (tgt := 101) hx hb dX5_type_89 (by decide) (fun hc3 => ?_) (fun hc3 => ?_)
    · rw [if_pos hc3] at h
      refine lv_iconst (v := (-1)) hx hb dX5_type_101 rfl ?_
      exact k_X5_type_102 C0 N σ1 x1 x3 (σ1 5 0) x1 (-1) _ _ _ hP hD hS (lv_sub hl [1, 2, 4, 0] rfl) h
    · rw [if_neg hc3] at h
      refine lv_aload_n hx hb dX5_type_92 rfl (lv_at hl 1 rfl) ?_
      refine va_get (D := D) (ci := 5) (v := .ref (a5 16)) (C := RX5) (T := TX5) (N := 30) hx hb hts in_X5_type_X5 hown hK hP 0 rfl rfl 15 (by decide) (hts (.fieldLink RX5 41 "TermLoomModel" "typeAt" "[I") (by decide +kernel)) (fun _ h9 => h9) rfl dX5_type_93 ?_
      refine lv_iload_n hx hb dX5_type_96 rfl (lv_at hl 3 rfl) ?_
      by_cases hi : x2 < 0 ∨ 4200 ≤ (x2).toNatClampNeg
      · rw [if_pos hi] at h; exact no h
      rw [if_neg hi] at h
      refine va_iald (f := (σ1 15)) hx hb hK hP 10 0 rfl rfl (i := x2) hi dX5_type_97 ?_
      refine lv_goto (tgt := 102) hx hb dX5_type_98 (by decide) ?_
      exact k_X5_type_102 C0 N σ1 x1 x3 (σ1 5 0) x1 (σ1 15 (x2).toNatClampNeg) _ _ _ hP hD hS (lv_sub hl [1, 2, 4, 0] rfl) h
  · rw [if_neg hc2] at h
    refine lv_iconst (v := 0) hx hb dX5_type_72 rfl ?_
    obtain ⟨rfl, rfl⟩ := so h
    exact ret_i C0 hP hD hS dX5_type_73
set_option maxHeartbeats 4000000 in
set_option maxRecDepth 100000 in
theorem k_X5_type_61 {p : Program} {l : Launch} {e : Env} {s : State} {m : MethodId} {args : Array Value} {below : List Frame} {meth : Method} {c : Code} {D : va_G} {cI cZ : ClassId} {a5 : Nat → Nat} {A : Nat → Prop} {r : Int32} {u1 : St} (C0 : mB p s m args meth c D cI cZ A cX5_type 6 (some .int) wsX5_type RX5) (N : Nat) : KP_X5_type_61 p l e s m args below meth c D cI cZ a5 A r u1 (f_X5_type_61 N) := by
  obtain ⟨hx, hb, hml, hr, hown, hts, hlocks, hA, hK, hN⟩ := id C0
  intro σ x1 x2 x3 H locs ls hP hD hS hl h
  unfold f_X5_type_61 at h
  refine lv_iconst (v := 0) hx hb dX5_type_61 rfl ?_
  exact k_X5_type_62 C0 N σ x1 x2 x3 0 _ _ _ hP hD hS (lv_sub hl [0, 1, 2, 3] rfl) h
set_option maxHeartbeats 4000000 in
set_option maxRecDepth 100000 in
theorem k_X5_type_57 {p : Program} {l : Launch} {e : Env} {s : State} {m : MethodId} {args : Array Value} {below : List Frame} {meth : Method} {c : Code} {D : va_G} {cI cZ : ClassId} {a5 : Nat → Nat} {A : Nat → Prop} {r : Int32} {u1 : St} (C0 : mB p s m args meth c D cI cZ A cX5_type 6 (some .int) wsX5_type RX5) (N : Nat) : KP_X5_type_57 p l e s m args below meth c D cI cZ a5 A r u1 (f_X5_type_57 N) := by
  obtain ⟨hx, hb, hml, hr, hown, hts, hlocks, hA, hK, hN⟩ := id C0
  intro σ x1 x2 x3 H locs ls hP hD hS hl h
  unfold f_X5_type_57 at h
  refine lv_iconst (v := 2) hx hb dX5_type_57 rfl ?_
  refine lv_goto (tgt := 62) hx hb dX5_type_58 (by decide) ?_
  exact k_X5_type_62 C0 N σ x1 x2 x3 2 _ _ _ hP hD hS (lv_sub hl [0, 1, 2, 3] rfl) h
set_option maxHeartbeats 4000000 in
set_option maxRecDepth 100000 in
theorem k_X5_type_36 {p : Program} {l : Launch} {e : Env} {s : State} {m : MethodId} {args : Array Value} {below : List Frame} {meth : Method} {c : Code} {D : va_G} {cI cZ : ClassId} {a5 : Nat → Nat} {A : Nat → Prop} {r : Int32} {u1 : St} (C0 : mB p s m args meth c D cI cZ A cX5_type 6 (some .int) wsX5_type RX5) (N : Nat) : KP_X5_type_36 p l e s m args below meth c D cI cZ a5 A r u1 (f_X5_type_36 N) := by
  obtain ⟨hx, hb, hml, hr, hown, hts, hlocks, hA, hK, hN⟩ := id C0
  intro σ x1 x2 x3 H locs ls hP hD hS hl h
  unfold f_X5_type_36 at h
  refine lv_aload_n hx hb dX5_type_36 rfl (lv_at hl 0 rfl) ?_
  refine va_get (D := D) (ci := 5) (v := .ref (a5 3)) (C := RX5) (T := TX5) (N := 30) hx hb hts in_X5_type_X5 hown hK hP 0 rfl rfl 2 (by decide) (hts (.fieldLink RX5 13 "TermLoomModel" "takes" "[I") (by decide +kernel)) (fun _ h9 => h9) rfl dX5_type_37 ?_
  refine lv_iload_n hx hb dX5_type_40 rfl (lv_at hl 1 rfl) ?_
  by_cases hi : x1 < 0 ∨ 40 ≤ (x1).toNatClampNeg
  · rw [if_pos hi] at h; exact no h
  rw [if_neg hi] at h
  refine va_iald (f := (σ 2)) hx hb hK hP 1 0 rfl rfl (i := x1) hi dX5_type_41 ?_
  refine lv_iconst (v := 1) hx hb dX5_type_42 rfl ?_
  refine lv_icmp_le (tgt := 61) hx hb dX5_type_43 (by decide) (fun hc1 => ?_) (fun hc1 => ?_)
  · rw [if_pos hc1] at h
    exact k_X5_type_61 C0 N σ x1 x2 x3 _ _ _ hP hD hS (lv_sub hl [0, 1, 2, 3] rfl) h
  · rw [if_neg hc1] at h
    refine lv_iload_n hx hb dX5_type_46 rfl (lv_at hl 3 rfl) ?_
    refine lv_aload_n hx hb dX5_type_47 rfl (lv_at hl 0 rfl) ?_
    refine va_get (D := D) (ci := 5) (v := .int (σ 13 0)) (C := RX5) (T := TX5) (N := 30) hx hb hts in_X5_type_X5 hown hK hP 0 rfl rfl 13 (by decide) (hts (.fieldLink RX5 110 "TermLoomModel" "types" "I") (by decide +kernel)) (fun _ h9 => h9) rfl dX5_type_48 ?_
    obtain ⟨q2, hq2, h⟩ := ob h
    refine mc_i (ws' := wX5 a5 cI cZ σ) (wr := ((wX5o a5 cI cZ σ) : va_W)) [] [0, 1, 2, 3, 4, 5, 6, 7, 8, 9, 10, 11, 12, 13, 14, 15, 16, 17, 18, 19, 20, 21, 22] [0, 1, 2, 3, 4, 5, 6, 7, 8, 9, 10, 11, 12, 13, 14, 15, 16, 17, 18, 19, 20, 21, 22] (va_runS (As := [.int x3, .int (σ 13 0)]) (rest := [.ref (a5 0)]) ⟨hx, hb, hml, hown, hts⟩ (c_X5_outside l D cI cZ N x3 (σ 13 0) q2.1 q2.2 hq2 H.size) (va_cwS 2 hts gX5_type_X5_outside rfl rfl rfl (by decide +kernel) ⟨Nat.le_of_ble_eq_true rfl, Nat.le_of_ble_eq_true rfl⟩) (pS [] hP hD hK hN rfl rfl) rfl rfl hl.1 rfl (lv_room (Nat.le_of_ble_eq_true rfl)) dX5_type_51 ⟨Nat.le_of_ble_eq_true rfl, Nat.le_of_ble_eq_true rfl⟩) hP hD hS hA rfl rfl rfl (by decide) rfl rfl (fun H locs hP hD hS => ?_)
    refine lv_if_eq (tgt := 61) hx hb dX5_type_54 (by decide) (fun hc3 => ?_) (fun hc3 => ?_)
    · rw [if_pos hc3] at h
      exact k_X5_type_61 C0 N σ x1 x2 x3 _ _ _ hP hD hS (lv_sub hl [0, 1, 2, 3] rfl) h
    · rw [if_neg hc3] at h
      exact k_X5_type_57 C0 N σ x1 x2 x3 _ _ _ hP hD hS (lv_sub hl [0, 1, 2, 3] rfl) h
set_option maxHeartbeats 4000000 in
set_option maxRecDepth 100000 in
theorem c_X5_type (l : Launch) (D : va_G) (cI cZ : ClassId) (a5 : Nat → Nat) (N : Nat) (σ : St) (x1 x2 x3 : Int32) : MI l yX5_type wsX5_type ({ frames := 2, cells := 0, slots := 0, locals := 48 } : Room) D cI cZ (wX5 a5 cI cZ) [.ref (a5 0), .int x1, .int x2, .int x3] σ (f_X5_type N σ x1 x2 x3) := by
  refine MI.of (cc := cX5_type) (maxL := 6) (ret := (some .int)) (own := RX5) (by decide) rfl rfl (Nat.le_of_ble_eq_true rfl) ?_
  intro r u1 h p e s m args below meth c A C0 H locs ls hP hD hS hl
  obtain ⟨hx, hb, hml, hr, hown, hts, hlocks, hA, hK, hN⟩ := id C0
  have hl : lv_has ls 6 [(0, .ref (a5 0)), (1, .int x1), (2, .int x2), (3, .int x3)] := hl
  unfold f_X5_type at h
  refine lv_aload_n hx hb dX5_type_0 rfl (lv_at hl 0 rfl) ?_
  refine lv_iload_n hx hb dX5_type_1 rfl (lv_at hl 1 rfl) ?_
  refine lv_aload_n hx hb dX5_type_2 rfl (lv_at hl 0 rfl) ?_
  refine va_get (D := D) (ci := 5) (v := .int (σ 1 0)) (C := RX5) (T := TX5) (N := 30) hx hb hts in_X5_type_X5 hown hK hP 0 rfl rfl 1 (by decide) (hts (.fieldLink RX5 7 "TermLoomModel" "constructors" "I") (by decide +kernel)) (fun _ h9 => h9) rfl dX5_type_3 ?_
  obtain ⟨q1, hq1, h⟩ := ob h
  refine mc_i (ws' := wX5 a5 cI cZ σ) (wr := ((wX5o a5 cI cZ σ) : va_W)) [] [0, 1, 2, 3, 4, 5, 6, 7, 8, 9, 10, 11, 12, 13, 14, 15, 16, 17, 18, 19, 20, 21, 22] [0, 1, 2, 3, 4, 5, 6, 7, 8, 9, 10, 11, 12, 13, 14, 15, 16, 17, 18, 19, 20, 21, 22] (va_runS (As := [.int x1, .int (σ 1 0)]) (rest := [.ref (a5 0)]) ⟨hx, hb, hml, hown, hts⟩ (c_X5_outside l D cI cZ N x1 (σ 1 0) q1.1 q1.2 hq1 H.size) (va_cwS 2 hts gX5_type_X5_outside rfl rfl rfl (by decide +kernel) ⟨Nat.le_of_ble_eq_true rfl, Nat.le_of_ble_eq_true rfl⟩) (pS [] hP hD hK hN rfl rfl) rfl rfl hl.1 rfl (lv_room (Nat.le_of_ble_eq_true rfl)) dX5_type_6 ⟨Nat.le_of_ble_eq_true rfl, Nat.le_of_ble_eq_true rfl⟩) hP hD hS hA rfl rfl rfl (by decide) rfl rfl (fun H locs hP hD hS => ?_)
  refine lv_if_eq (tgt := 16) hx hb dX5_type_9 (by decide) (fun hc2 => ?_) (fun hc2 => ?_)
  · rw [if_pos hc2] at h
    refine lv_aload_n hx hb dX5_type_16 rfl (lv_at hl 0 rfl) ?_
    refine va_get (D := D) (ci := 5) (v := .ref (a5 3)) (C := RX5) (T := TX5) (N := 30) hx hb hts in_X5_type_X5 hown hK hP 0 rfl rfl 2 (by decide) (hts (.fieldLink RX5 13 "TermLoomModel" "takes" "[I") (by decide +kernel)) (fun _ h9 => h9) rfl dX5_type_17 ?_
    refine lv_iload_n hx hb dX5_type_20 rfl (lv_at hl 1 rfl) ?_
    by_cases hi : x1 < 0 ∨ 40 ≤ (x1).toNatClampNeg
    · rw [if_pos hi] at h; exact no h
    rw [if_neg hi] at h
    refine va_iald (f := (σ 2)) hx hb hK hP 1 0 rfl rfl (i := x1) hi dX5_type_21 ?_
    refine lv_if_le (tgt := 36) hx hb dX5_type_22 (by decide) (fun hc3 => ?_) (fun hc3 => ?_)
    · rw [if_pos hc3] at h
      exact k_X5_type_36 C0 N σ x1 x2 x3 _ _ _ hP hD hS (lv_sub hl [0, 1, 2, 3] rfl) h
    · rw [if_neg hc3] at h
      refine lv_iload_n hx hb dX5_type_25 rfl (lv_at hl 2 rfl) ?_
      refine lv_aload_n hx hb dX5_type_26 rfl (lv_at hl 0 rfl) ?_
      refine va_get (D := D) (ci := 5) (v := .int (σ 13 0)) (C := RX5) (T := TX5) (N := 30) hx hb hts in_X5_type_X5 hown hK hP 0 rfl rfl 13 (by decide) (hts (.fieldLink RX5 110 "TermLoomModel" "types" "I") (by decide +kernel)) (fun _ h9 => h9) rfl dX5_type_27 ?_
      obtain ⟨q4, hq4, h⟩ := ob h
      refine mc_i (ws' := wX5 a5 cI cZ σ) (wr := ((wX5o a5 cI cZ σ) : va_W)) [] [0, 1, 2, 3, 4, 5, 6, 7, 8, 9, 10, 11, 12, 13, 14, 15, 16, 17, 18, 19, 20, 21, 22] [0, 1, 2, 3, 4, 5, 6, 7, 8, 9, 10, 11, 12, 13, 14, 15, 16, 17, 18, 19, 20, 21, 22] (va_runS (As := [.int x2, .int (σ 13 0)]) (rest := [.ref (a5 0)]) ⟨hx, hb, hml, hown, hts⟩ (c_X5_outside l D cI cZ N x2 (σ 13 0) q4.1 q4.2 hq4 H.size) (va_cwS 2 hts gX5_type_X5_outside rfl rfl rfl (by decide +kernel) ⟨Nat.le_of_ble_eq_true rfl, Nat.le_of_ble_eq_true rfl⟩) (pS [] hP hD hK hN rfl rfl) rfl rfl hl.1 rfl (lv_room (Nat.le_of_ble_eq_true rfl)) dX5_type_30 ⟨Nat.le_of_ble_eq_true rfl, Nat.le_of_ble_eq_true rfl⟩) hP hD hS hA rfl rfl rfl (by decide) rfl rfl (fun H locs hP hD hS => ?_)
      refine lv_if_ne (tgt := 57) hx hb dX5_type_33 (by decide) (fun hc5 => ?_) (fun hc5 => ?_)
      · rw [if_neg hc5] at h
        exact k_X5_type_57 C0 N σ x1 x2 x3 _ _ _ hP hD hS (lv_sub hl [0, 1, 2, 3] rfl) h
      · rw [if_pos hc5] at h
        exact k_X5_type_36 C0 N σ x1 x2 x3 _ _ _ hP hD hS (lv_sub hl [0, 1, 2, 3] rfl) h
  · rw [if_neg hc2] at h
    refine lv_iconst (v := 1) hx hb dX5_type_12 rfl ?_
    refine lv_goto (tgt := 62) hx hb dX5_type_13 (by decide) ?_
    exact k_X5_type_62 C0 N σ x1 x2 x3 1 _ _ _ hP hD hS (lv_sub hl [0, 1, 2, 3] rfl) h

theorem in_X5_typeSymbol_X5 : ∀ w ∈ u_ws RX5 TX5 30, w ∈ wsX5_typeSymbol := by decide +kernel
def f_X5_typeSymbol_133 (N : Nat) (k57 : St → Int32 → Int32 → Option (Int32 × St)) (σ : St) (x4 s0 : Int32) : Option (Int32 × St) := k57 σ s0 x4
def f_X5_typeSymbol_110 (N : Nat) (k57 : St → Int32 → Int32 → Option (Int32 × St)) (σ : St) (x3 x5 s0 s1 : Int32) : Option (Int32 × St) := if x5 = 0 then if x3 < 0 ∨ 16000 ≤ (x3).toNatClampNeg then none else f_X5_typeSymbol_133 N k57 σ (s0 - s1) (σ 8 (x3).toNatClampNeg) else if x3 < 0 ∨ 16000 ≤ (x3).toNatClampNeg then none else f_X5_typeSymbol_133 N k57 σ (s0 - s1) (σ 7 (x3).toNatClampNeg)
def f_X5_typeSymbol_86 (N : Nat) (k57 : St → Int32 → Int32 → Option (Int32 × St)) (σ : St) (x3 x4 s0 : Int32) : Option (Int32 × St) := if s0 = 0 then if x3 < 0 ∨ 16000 ≤ (x3).toNatClampNeg then none else if (σ 7 (x3).toNatClampNeg) < 0 ∨ 16000 ≤ ((σ 7 (x3).toNatClampNeg)).toNatClampNeg then none else f_X5_typeSymbol_110 N k57 σ x3 s0 x4 (σ 9 ((σ 7 (x3).toNatClampNeg)).toNatClampNeg) else f_X5_typeSymbol_110 N k57 σ x3 s0 x4 0
def f_X5_typeSymbol_57 (N : Nat) : Nat → St → Int32 → Int32 → Option (Int32 × St)
  | 0, _, _, _ => none
  | n + 1, σ, x3, x4 => if x4 ≤ 0 then if x3 < 0 ∨ 16000 ≤ (x3).toNatClampNeg then none else some ((σ 6 (x3).toNatClampNeg), σ) else if x3 < 0 ∨ 16000 ≤ (x3).toNatClampNeg then none else if (σ 7 (x3).toNatClampNeg) < 0 ∨ 16000 ≤ ((σ 7 (x3).toNatClampNeg)).toNatClampNeg then none else if (σ 9 ((σ 7 (x3).toNatClampNeg)).toNatClampNeg) ≤ (x4 + (-1)) then f_X5_typeSymbol_86 N (f_X5_typeSymbol_57 N n) σ x3 (x4 + (-1)) 0 else f_X5_typeSymbol_86 N (f_X5_typeSymbol_57 N n) σ x3 (x4 + (-1)) 1
def f_X5_typeSymbol_35 (N : Nat) (σ : St) (x1 x2 s1 : Int32) : Option (Int32 × St) := bnd (up2 σ 0 0 s1) (fun σ1 => if (σ1 0 0) ≤ 0 then if x1 < 0 ∨ 4200 ≤ (x1).toNatClampNeg then none else f_X5_typeSymbol_57 N N σ1 (σ1 15 (x1).toNatClampNeg) x2 else some (0, σ1))
def f_X5_typeSymbol_30 (N : Nat) (σ : St) (x1 x2 : Int32) : Option (Int32 × St) := f_X5_typeSymbol_35 N σ x1 x2 1
def f_X5_typeSymbol (N : Nat) (σ : St) (x1 x2 : Int32) : Option (Int32 × St) := (f_X5_outside N x1 (σ 13 0)).bind (fun q1 => if q1.1 = 0 then if x1 < 0 ∨ 4200 ≤ (x1).toNatClampNeg then none else if (σ 15 (x1).toNatClampNeg) < 0 ∨ 16000 ≤ ((σ 15 (x1).toNatClampNeg)).toNatClampNeg then none else (f_X5_outside N x2 (σ 9 ((σ 15 (x1).toNatClampNeg)).toNatClampNeg)).bind (fun q3 => if q3.1 = 0 then f_X5_typeSymbol_35 N σ x1 x2 0 else f_X5_typeSymbol_30 N σ x1 x2) else f_X5_typeSymbol_30 N σ x1 x2)
abbrev KP_X5_typeSymbol_133 (p : Program) (l : Launch) (e : Env) (s : State) (m : MethodId) (args : Array Value) (below : List Frame) (meth : Method) (c : Code) (D : va_G) (cI cZ : ClassId) (a5 : Nat → Nat) (A : Nat → Prop) (r : Int32) (u1 : St) (K : St → Int32 → Int32 → Option (Int32 × St)) : Prop := ∀ (σ : St) (x4 s0 : Int32) (H : Heap) (locs : List Loc) (ls : Array Slot), va_P D vwCl (wX5 a5 cI cZ σ) H → va_D A (wX5 a5 cI cZ σ) → va_S A s.heap H locs → lv_has ls 6 [(0, .ref (a5 0)), (4, .int x4)] → K σ x4 s0 = some (r, u1) → W p l e ({ frames := 1, cells := 0, slots := 0, locals := 21 } : Room) s m args below meth c H locs 0 0 (QI below args s D cI cZ (wX5 a5 cI cZ) A r u1) (F0 m 133 ls [.int s0])
abbrev KP_X5_typeSymbol_110 (p : Program) (l : Launch) (e : Env) (s : State) (m : MethodId) (args : Array Value) (below : List Frame) (meth : Method) (c : Code) (D : va_G) (cI cZ : ClassId) (a5 : Nat → Nat) (A : Nat → Prop) (r : Int32) (u1 : St) (K : St → Int32 → Int32 → Int32 → Int32 → Option (Int32 × St)) : Prop := ∀ (σ : St) (x3 x5 s0 s1 : Int32) (H : Heap) (locs : List Loc) (ls : Array Slot), va_P D vwCl (wX5 a5 cI cZ σ) H → va_D A (wX5 a5 cI cZ σ) → va_S A s.heap H locs → lv_has ls 6 [(0, .ref (a5 0)), (3, .int x3), (5, .int x5)] → K σ x3 x5 s0 s1 = some (r, u1) → W p l e ({ frames := 1, cells := 0, slots := 0, locals := 21 } : Room) s m args below meth c H locs 0 0 (QI below args s D cI cZ (wX5 a5 cI cZ) A r u1) (F0 m 110 ls [.int s1, .int s0])
abbrev KP_X5_typeSymbol_86 (p : Program) (l : Launch) (e : Env) (s : State) (m : MethodId) (args : Array Value) (below : List Frame) (meth : Method) (c : Code) (D : va_G) (cI cZ : ClassId) (a5 : Nat → Nat) (A : Nat → Prop) (r : Int32) (u1 : St) (K : St → Int32 → Int32 → Int32 → Option (Int32 × St)) : Prop := ∀ (σ : St) (x3 x4 s0 : Int32) (H : Heap) (locs : List Loc) (ls : Array Slot), va_P D vwCl (wX5 a5 cI cZ σ) H → va_D A (wX5 a5 cI cZ σ) → va_S A s.heap H locs → lv_has ls 6 [(0, .ref (a5 0)), (3, .int x3), (4, .int x4)] → K σ x3 x4 s0 = some (r, u1) → W p l e ({ frames := 1, cells := 0, slots := 0, locals := 21 } : Room) s m args below meth c H locs 0 0 (QI below args s D cI cZ (wX5 a5 cI cZ) A r u1) (F0 m 86 ls [.int s0])
abbrev KP_X5_typeSymbol_57 (p : Program) (l : Launch) (e : Env) (s : State) (m : MethodId) (args : Array Value) (below : List Frame) (meth : Method) (c : Code) (D : va_G) (cI cZ : ClassId) (a5 : Nat → Nat) (A : Nat → Prop) (r : Int32) (u1 : St) (K : St → Int32 → Int32 → Option (Int32 × St)) : Prop := ∀ (σ : St) (x3 x4 : Int32) (H : Heap) (locs : List Loc) (ls : Array Slot), va_P D vwCl (wX5 a5 cI cZ σ) H → va_D A (wX5 a5 cI cZ σ) → va_S A s.heap H locs → lv_has ls 6 [(0, .ref (a5 0)), (3, .int x3), (4, .int x4)] → K σ x3 x4 = some (r, u1) → W p l e ({ frames := 1, cells := 0, slots := 0, locals := 21 } : Room) s m args below meth c H locs 0 0 (QI below args s D cI cZ (wX5 a5 cI cZ) A r u1) (F0 m 57 ls [])
abbrev KP_X5_typeSymbol_35 (p : Program) (l : Launch) (e : Env) (s : State) (m : MethodId) (args : Array Value) (below : List Frame) (meth : Method) (c : Code) (D : va_G) (cI cZ : ClassId) (a5 : Nat → Nat) (A : Nat → Prop) (r : Int32) (u1 : St) (K : St → Int32 → Int32 → Int32 → Option (Int32 × St)) : Prop := ∀ (σ : St) (x1 x2 s1 : Int32) (H : Heap) (locs : List Loc) (ls : Array Slot), va_P D vwCl (wX5 a5 cI cZ σ) H → va_D A (wX5 a5 cI cZ σ) → va_S A s.heap H locs → lv_has ls 6 [(0, .ref (a5 0)), (1, .int x1), (2, .int x2)] → K σ x1 x2 s1 = some (r, u1) → W p l e ({ frames := 1, cells := 0, slots := 0, locals := 21 } : Room) s m args below meth c H locs 0 0 (QI below args s D cI cZ (wX5 a5 cI cZ) A r u1) (F0 m 35 ls [.int s1, .ref (a5 0)])
abbrev KP_X5_typeSymbol_30 (p : Program) (l : Launch) (e : Env) (s : State) (m : MethodId) (args : Array Value) (below : List Frame) (meth : Method) (c : Code) (D : va_G) (cI cZ : ClassId) (a5 : Nat → Nat) (A : Nat → Prop) (r : Int32) (u1 : St) (K : St → Int32 → Int32 → Option (Int32 × St)) : Prop := ∀ (σ : St) (x1 x2 : Int32) (H : Heap) (locs : List Loc) (ls : Array Slot), va_P D vwCl (wX5 a5 cI cZ σ) H → va_D A (wX5 a5 cI cZ σ) → va_S A s.heap H locs → lv_has ls 6 [(0, .ref (a5 0)), (1, .int x1), (2, .int x2)] → K σ x1 x2 = some (r, u1) → W p l e ({ frames := 1, cells := 0, slots := 0, locals := 21 } : Room) s m args below meth c H locs 0 0 (QI below args s D cI cZ (wX5 a5 cI cZ) A r u1) (F0 m 30 ls [.ref (a5 0)])
set_option maxHeartbeats 4000000 in
set_option maxRecDepth 100000 in
theorem k_X5_typeSymbol_133 {p : Program} {l : Launch} {e : Env} {s : State} {m : MethodId} {args : Array Value} {below : List Frame} {meth : Method} {c : Code} {D : va_G} {cI cZ : ClassId} {a5 : Nat → Nat} {A : Nat → Prop} {r : Int32} {u1 : St} (C0 : mB p s m args meth c D cI cZ A cX5_typeSymbol 6 (some .int) wsX5_typeSymbol RX5) (N : Nat) (k57 : St → Int32 → Int32 → Option (Int32 × St)) (hk57 : KP_X5_typeSymbol_57 p l e s m args below meth c D cI cZ a5 A r u1 k57) : KP_X5_typeSymbol_133 p l e s m args below meth c D cI cZ a5 A r u1 (f_X5_typeSymbol_133 N k57) := by
  obtain ⟨hx, hb, hml, hr, hown, hts, hlocks, hA, hK, hN⟩ := id C0
  intro σ x4 s0 H locs ls hP hD hS hl h
  unfold f_X5_typeSymbol_133 at h
  refine lv_istore_n (lv' := [(3, .int s0), (0, .ref (a5 0)), (4, .int x4)]) hx hb dX5_typeSymbol_133 rfl hl (by decide) rfl (fun ls hl => ?_)
  refine lv_goto (tgt := 57) hx hb dX5_typeSymbol_134 (by decide) ?_
  exact hk57 σ s0 x4 _ _ _ hP hD hS (lv_sub hl [1, 0, 2] rfl) h
set_option maxHeartbeats 4000000 in
set_option maxRecDepth 100000 in
theorem k_X5_typeSymbol_110 {p : Program} {l : Launch} {e : Env} {s : State} {m : MethodId} {args : Array Value} {below : List Frame} {meth : Method} {c : Code} {D : va_G} {cI cZ : ClassId} {a5 : Nat → Nat} {A : Nat → Prop} {r : Int32} {u1 : St} (C0 : mB p s m args meth c D cI cZ A cX5_typeSymbol 6 (some .int) wsX5_typeSymbol RX5) (N : Nat) (k57 : St → Int32 → Int32 → Option (Int32 × St)) (hk57 : KP_X5_typeSymbol_57 p l e s m args below meth c D cI cZ a5 A r u1 k57) : KP_X5_typeSymbol_110 p l e s m args below meth c D cI cZ a5 A r u1 (f_X5_typeSymbol_110 N k57) := by
  obtain ⟨hx, hb, hml, hr, hown, hts, hlocks, hA, hK, hN⟩ := id C0
  intro σ x3 x5 s0 s1 H locs ls hP hD hS hl h
  unfold f_X5_typeSymbol_110 at h
  refine lv_isub hx hb dX5_typeSymbol_110 ?_
  refine lv_istore (lv' := [(4, .int (s0 - s1)), (0, .ref (a5 0)), (3, .int x3), (5, .int x5)]) hx hb dX5_typeSymbol_111 hl (by decide) rfl (fun ls hl => ?_)
  refine lv_iload hx hb dX5_typeSymbol_113 (lv_at hl 3 rfl) ?_
  refine lv_if_eq (tgt := 127) hx hb dX5_typeSymbol_115 (by decide) (fun hc1 => ?_) (fun hc1 => ?_)
  · rw [if_pos hc1] at h
    refine lv_aload_n hx hb dX5_typeSymbol_127 rfl (lv_at hl 1 rfl) ?_
    refine va_get (D := D) (ci := 5) (v := .ref (a5 9)) (C := RX5) (T := TX5) (N := 30) hx hb hts in_X5_typeSymbol_X5 hown hK hP 0 rfl rfl 8 (by decide) (hts (.fieldLink RX5 26 "TermLoomModel" "right" "[I") (by decide +kernel)) (fun _ h9 => h9) rfl dX5_typeSymbol_128 ?_
    refine lv_iload_n hx hb dX5_typeSymbol_131 rfl (lv_at hl 2 rfl) ?_
    by_cases hi : x3 < 0 ∨ 16000 ≤ (x3).toNatClampNeg
    · rw [if_pos hi] at h; exact no h
    rw [if_neg hi] at h
    refine va_iald (f := (σ 8)) hx hb hK hP 5 0 rfl rfl (i := x3) hi dX5_typeSymbol_132 ?_
    exact k_X5_typeSymbol_133 C0 N k57 hk57 σ (s0 - s1) (σ 8 (x3).toNatClampNeg) _ _ _ hP hD hS (lv_sub hl [1, 0] rfl) h
  · rw [if_neg hc1] at h
    refine lv_aload_n hx hb dX5_typeSymbol_118 rfl (lv_at hl 1 rfl) ?_
    refine va_get (D := D) (ci := 5) (v := .ref (a5 8)) (C := RX5) (T := TX5) (N := 30) hx hb hts in_X5_typeSymbol_X5 hown hK hP 0 rfl rfl 7 (by decide) (hts (.fieldLink RX5 23 "TermLoomModel" "left" "[I") (by decide +kernel)) (fun _ h9 => h9) rfl dX5_typeSymbol_119 ?_
    refine lv_iload_n hx hb dX5_typeSymbol_122 rfl (lv_at hl 2 rfl) ?_
    by_cases hi : x3 < 0 ∨ 16000 ≤ (x3).toNatClampNeg
    · rw [if_pos hi] at h; exact no h
    rw [if_neg hi] at h
    refine va_iald (f := (σ 7)) hx hb hK hP 4 0 rfl rfl (i := x3) hi dX5_typeSymbol_123 ?_
    refine lv_goto (tgt := 133) hx hb dX5_typeSymbol_124 (by decide) ?_
    exact k_X5_typeSymbol_133 C0 N k57 hk57 σ (s0 - s1) (σ 7 (x3).toNatClampNeg) _ _ _ hP hD hS (lv_sub hl [1, 0] rfl) h
set_option maxHeartbeats 4000000 in
set_option maxRecDepth 100000 in
theorem k_X5_typeSymbol_86 {p : Program} {l : Launch} {e : Env} {s : State} {m : MethodId} {args : Array Value} {below : List Frame} {meth : Method} {c : Code} {D : va_G} {cI cZ : ClassId} {a5 : Nat → Nat} {A : Nat → Prop} {r : Int32} {u1 : St} (C0 : mB p s m args meth c D cI cZ A cX5_typeSymbol 6 (some .int) wsX5_typeSymbol RX5) (N : Nat) (k57 : St → Int32 → Int32 → Option (Int32 × St)) (hk57 : KP_X5_typeSymbol_57 p l e s m args below meth c D cI cZ a5 A r u1 k57) : KP_X5_typeSymbol_86 p l e s m args below meth c D cI cZ a5 A r u1 (f_X5_typeSymbol_86 N k57) := by
  obtain ⟨hx, hb, hml, hr, hown, hts, hlocks, hA, hK, hN⟩ := id C0
  intro σ x3 x4 s0 H locs ls hP hD hS hl h
  unfold f_X5_typeSymbol_86 at h
  refine lv_istore (lv' := [(5, .int s0), (0, .ref (a5 0)), (3, .int x3), (4, .int x4)]) hx hb dX5_typeSymbol_86 hl (by decide) rfl (fun ls hl => ?_)
  refine lv_iload hx hb dX5_typeSymbol_88 (lv_at hl 3 rfl) ?_
  refine lv_iload hx hb dX5_typeSymbol_90 (lv_at hl 0 rfl) ?_
  refine lv_if_eq (tgt := 99) hx hb dX5_typeSymbol_92 (by decide) (fun hc1 => ?_) (fun hc1 => ?_)
  · rw [if_pos hc1] at h
    refine lv_aload_n hx hb dX5_typeSymbol_99 rfl (lv_at hl 1 rfl) ?_
    refine va_get (D := D) (ci := 5) (v := .ref (a5 10)) (C := RX5) (T := TX5) (N := 30) hx hb hts in_X5_typeSymbol_X5 hown hK hP 0 rfl rfl 9 (by decide) (hts (.fieldLink RX5 29 "TermLoomModel" "wide" "[I") (by decide +kernel)) (fun _ h9 => h9) rfl dX5_typeSymbol_100 ?_
    refine lv_aload_n hx hb dX5_typeSymbol_103 rfl (lv_at hl 1 rfl) ?_
    refine va_get (D := D) (ci := 5) (v := .ref (a5 8)) (C := RX5) (T := TX5) (N := 30) hx hb hts in_X5_typeSymbol_X5 hown hK hP 0 rfl rfl 7 (by decide) (hts (.fieldLink RX5 23 "TermLoomModel" "left" "[I") (by decide +kernel)) (fun _ h9 => h9) rfl dX5_typeSymbol_104 ?_
    refine lv_iload_n hx hb dX5_typeSymbol_107 rfl (lv_at hl 2 rfl) ?_
    by_cases hi : x3 < 0 ∨ 16000 ≤ (x3).toNatClampNeg
    · rw [if_pos hi] at h; exact no h
    rw [if_neg hi] at h
    refine va_iald (f := (σ 7)) hx hb hK hP 4 0 rfl rfl (i := x3) hi dX5_typeSymbol_108 ?_
    by_cases hi : (σ 7 (x3).toNatClampNeg) < 0 ∨ 16000 ≤ ((σ 7 (x3).toNatClampNeg)).toNatClampNeg
    · rw [if_pos hi] at h; exact no h
    rw [if_neg hi] at h
    refine va_iald (f := (σ 9)) hx hb hK hP 6 0 rfl rfl (i := (σ 7 (x3).toNatClampNeg)) hi dX5_typeSymbol_109 ?_
    exact k_X5_typeSymbol_110 C0 N k57 hk57 σ x3 s0 x4 (σ 9 ((σ 7 (x3).toNatClampNeg)).toNatClampNeg) _ _ _ hP hD hS (lv_sub hl [1, 2, 0] rfl) h
  · rw [if_neg hc1] at h
    refine lv_iconst (v := 0) hx hb dX5_typeSymbol_95 rfl ?_
    refine lv_goto (tgt := 110) hx hb dX5_typeSymbol_96 (by decide) ?_
    exact k_X5_typeSymbol_110 C0 N k57 hk57 σ x3 s0 x4 0 _ _ _ hP hD hS (lv_sub hl [1, 2, 0] rfl) h
set_option maxHeartbeats 4000000 in
set_option maxRecDepth 100000 in
theorem k_X5_typeSymbol_57 {p : Program} {l : Launch} {e : Env} {s : State} {m : MethodId} {args : Array Value} {below : List Frame} {meth : Method} {c : Code} {D : va_G} {cI cZ : ClassId} {a5 : Nat → Nat} {A : Nat → Prop} {r : Int32} {u1 : St} (C0 : mB p s m args meth c D cI cZ A cX5_typeSymbol 6 (some .int) wsX5_typeSymbol RX5) (N : Nat) : ∀ n : Nat, KP_X5_typeSymbol_57 p l e s m args below meth c D cI cZ a5 A r u1 (f_X5_typeSymbol_57 N n) := by
  obtain ⟨hx, hb, hml, hr, hown, hts, hlocks, hA, hK, hN⟩ := id C0
  intro n
  induction n with
  | zero =>
    intro σ x3 x4 H locs ls hP hD hS hl h
    exact no (show (none : Option (Int32 × St)) = _ from h)
  | succ n ih =>
    intro σ x3 x4 H locs ls hP hD hS hl h
    rw [f_X5_typeSymbol_57] at h
    refine lv_iload hx hb dX5_typeSymbol_57 (lv_at hl 2 rfl) ?_
    refine lv_if_le (tgt := 137) hx hb dX5_typeSymbol_59 (by decide) (fun hc1 => ?_) (fun hc1 => ?_)
    · rw [if_pos hc1] at h
      refine lv_aload_n hx hb dX5_typeSymbol_137 rfl (lv_at hl 0 rfl) ?_
      refine va_get (D := D) (ci := 5) (v := .ref (a5 7)) (C := RX5) (T := TX5) (N := 30) hx hb hts in_X5_typeSymbol_X5 hown hK hP 0 rfl rfl 6 (by decide) (hts (.fieldLink RX5 20 "TermLoomModel" "head" "[I") (by decide +kernel)) (fun _ h9 => h9) rfl dX5_typeSymbol_138 ?_
      refine lv_iload_n hx hb dX5_typeSymbol_141 rfl (lv_at hl 1 rfl) ?_
      by_cases hi : x3 < 0 ∨ 16000 ≤ (x3).toNatClampNeg
      · rw [if_pos hi] at h; exact no h
      rw [if_neg hi] at h
      refine va_iald (f := (σ 6)) hx hb hK hP 3 0 rfl rfl (i := x3) hi dX5_typeSymbol_142 ?_
      obtain ⟨rfl, rfl⟩ := so h
      exact ret_i C0 hP hD hS dX5_typeSymbol_143
    · rw [if_neg hc1] at h
      refine lv_iinc (v := (x4 + (-1))) (lv' := [(4, .int (x4 + (-1))), (0, .ref (a5 0)), (3, .int x3)]) hx hb dX5_typeSymbol_62 hl (k := 2) rfl rfl (by decide) rfl (fun ls hl => ?_)
      refine lv_iload hx hb dX5_typeSymbol_65 (lv_at hl 0 rfl) ?_
      refine lv_aload_n hx hb dX5_typeSymbol_67 rfl (lv_at hl 1 rfl) ?_
      refine va_get (D := D) (ci := 5) (v := .ref (a5 10)) (C := RX5) (T := TX5) (N := 30) hx hb hts in_X5_typeSymbol_X5 hown hK hP 0 rfl rfl 9 (by decide) (hts (.fieldLink RX5 29 "TermLoomModel" "wide" "[I") (by decide +kernel)) (fun _ h9 => h9) rfl dX5_typeSymbol_68 ?_
      refine lv_aload_n hx hb dX5_typeSymbol_71 rfl (lv_at hl 1 rfl) ?_
      refine va_get (D := D) (ci := 5) (v := .ref (a5 8)) (C := RX5) (T := TX5) (N := 30) hx hb hts in_X5_typeSymbol_X5 hown hK hP 0 rfl rfl 7 (by decide) (hts (.fieldLink RX5 23 "TermLoomModel" "left" "[I") (by decide +kernel)) (fun _ h9 => h9) rfl dX5_typeSymbol_72 ?_
      refine lv_iload_n hx hb dX5_typeSymbol_75 rfl (lv_at hl 2 rfl) ?_
      by_cases hi : x3 < 0 ∨ 16000 ≤ (x3).toNatClampNeg
      · rw [if_pos hi] at h; exact no h
      rw [if_neg hi] at h
      refine va_iald (f := (σ 7)) hx hb hK hP 4 0 rfl rfl (i := x3) hi dX5_typeSymbol_76 ?_
      by_cases hi : (σ 7 (x3).toNatClampNeg) < 0 ∨ 16000 ≤ ((σ 7 (x3).toNatClampNeg)).toNatClampNeg
      · rw [if_pos hi] at h; exact no h
      rw [if_neg hi] at h
      refine va_iald (f := (σ 9)) hx hb hK hP 6 0 rfl rfl (i := (σ 7 (x3).toNatClampNeg)) hi dX5_typeSymbol_77 ?_
      refine lv_icmp_ge (tgt := 85) hx hb dX5_typeSymbol_78 (by decide) (fun hc2 => ?_) (fun hc2 => ?_)
      · rw [if_pos hc2] at h
        refine lv_iconst (v := 0) hx hb dX5_typeSymbol_85 rfl ?_
        exact k_X5_typeSymbol_86 C0 N (f_X5_typeSymbol_57 N n) ih σ x3 (x4 + (-1)) 0 _ _ _ hP hD hS (lv_sub hl [1, 2, 0] rfl) h
      · rw [if_neg hc2] at h
        refine lv_iconst (v := 1) hx hb dX5_typeSymbol_81 rfl ?_
        refine lv_goto (tgt := 86) hx hb dX5_typeSymbol_82 (by decide) ?_
        exact k_X5_typeSymbol_86 C0 N (f_X5_typeSymbol_57 N n) ih σ x3 (x4 + (-1)) 1 _ _ _ hP hD hS (lv_sub hl [1, 2, 0] rfl) h
set_option maxHeartbeats 4000000 in
set_option maxRecDepth 100000 in
theorem k_X5_typeSymbol_35 {p : Program} {l : Launch} {e : Env} {s : State} {m : MethodId} {args : Array Value} {below : List Frame} {meth : Method} {c : Code} {D : va_G} {cI cZ : ClassId} {a5 : Nat → Nat} {A : Nat → Prop} {r : Int32} {u1 : St} (C0 : mB p s m args meth c D cI cZ A cX5_typeSymbol 6 (some .int) wsX5_typeSymbol RX5) (N : Nat) : KP_X5_typeSymbol_35 p l e s m args below meth c D cI cZ a5 A r u1 (f_X5_typeSymbol_35 N) := by
  obtain ⟨hx, hb, hml, hr, hown, hts, hlocks, hA, hK, hN⟩ := id C0
  intro σ x1 x2 s1 H locs ls hP hD hS hl h
  unfold f_X5_typeSymbol_35 at h
  refine va_put (D := D) (ci := 5) (v := .int s1) (ty := .int) (C := RX5) (T := TX5) (N := 30) hx hb hts in_X5_typeSymbol_X5 tyX5 tyX5_ok nmX5 hown hK hP hD hS 0 rfl rfl 0 (by decide) (hts (.fieldLink RX5 85 "TermLoomModel" "code" "I") (by decide +kernel)) (fun _ h9 => h9) rfl (by decide +kernel) rfl rfl (Nat.le_of_ble_eq_true rfl) dX5_typeSymbol_35 (fun H locs hP hD hS => ?_)
  obtain ⟨σ1, eσ1, h⟩ := bn h
  have hP : va_P D vwCl (wX5 a5 cI cZ σ1) H := by rw [eσ1]; exact hP
  have hD : va_D A (wX5 a5 cI cZ σ1) := by rw [eσ1]; exact hD
  refine lv_aload_n hx hb dX5_typeSymbol_38 rfl (lv_at hl 0 rfl) ?_
  refine va_get (D := D) (ci := 5) (v := .int (σ1 0 0)) (C := RX5) (T := TX5) (N := 30) hx hb hts in_X5_typeSymbol_X5 hown hK hP 0 rfl rfl 0 (by decide) (hts (.fieldLink RX5 85 "TermLoomModel" "code" "I") (by decide +kernel)) (fun _ h9 => h9) rfl dX5_typeSymbol_39 ?_
  refine lv_if_le (tgt := 47) hx hb dX5_typeSymbol_42 (by decide) (fun hc2 => ?_) (fun hc2 => ?_)
  · rw [if_pos hc2] at h
    refine lv_aload_n hx hb dX5_typeSymbol_47 rfl (lv_at hl 0 rfl) ?_
    refine va_get (D := D) (ci := 5) (v := .ref (a5 16)) (C := RX5) (T := TX5) (N := 30) hx hb hts in_X5_typeSymbol_X5 hown hK hP 0 rfl rfl 15 (by decide) (hts (.fieldLink RX5 41 "TermLoomModel" "typeAt" "[I") (by decide +kernel)) (fun _ h9 => h9) rfl dX5_typeSymbol_48 ?_
    refine lv_iload_n hx hb dX5_typeSymbol_51 rfl (lv_at hl 1 rfl) ?_
    by_cases hi : x1 < 0 ∨ 4200 ≤ (x1).toNatClampNeg
    · rw [if_pos hi] at h; exact no h
    rw [if_neg hi] at h
    refine va_iald (f := (σ1 15)) hx hb hK hP 10 0 rfl rfl (i := x1) hi dX5_typeSymbol_52 ?_
    refine lv_istore_n (lv' := [(3, .int (σ1 15 (x1).toNatClampNeg)), (0, .ref (a5 0)), (1, .int x1), (2, .int x2)]) hx hb dX5_typeSymbol_53 rfl hl (by decide) rfl (fun ls hl => ?_)
    refine lv_iload_n hx hb dX5_typeSymbol_54 rfl (lv_at hl 3 rfl) ?_
    refine lv_istore (lv' := [(4, .int x2), (3, .int (σ1 15 (x1).toNatClampNeg)), (0, .ref (a5 0)), (1, .int x1), (2, .int x2)]) hx hb dX5_typeSymbol_55 hl (by decide) rfl (fun ls hl => ?_)
    exact k_X5_typeSymbol_57 C0 N N σ1 (σ1 15 (x1).toNatClampNeg) x2 _ _ _ hP hD hS (lv_sub hl [2, 1, 0] rfl) h
  · rw [if_neg hc2] at h
    refine lv_iconst (v := 0) hx hb dX5_typeSymbol_45 rfl ?_
    obtain ⟨rfl, rfl⟩ := so h
    exact ret_i C0 hP hD hS dX5_typeSymbol_46
set_option maxHeartbeats 4000000 in
set_option maxRecDepth 100000 in
theorem k_X5_typeSymbol_30 {p : Program} {l : Launch} {e : Env} {s : State} {m : MethodId} {args : Array Value} {below : List Frame} {meth : Method} {c : Code} {D : va_G} {cI cZ : ClassId} {a5 : Nat → Nat} {A : Nat → Prop} {r : Int32} {u1 : St} (C0 : mB p s m args meth c D cI cZ A cX5_typeSymbol 6 (some .int) wsX5_typeSymbol RX5) (N : Nat) : KP_X5_typeSymbol_30 p l e s m args below meth c D cI cZ a5 A r u1 (f_X5_typeSymbol_30 N) := by
  obtain ⟨hx, hb, hml, hr, hown, hts, hlocks, hA, hK, hN⟩ := id C0
  intro σ x1 x2 H locs ls hP hD hS hl h
  unfold f_X5_typeSymbol_30 at h
  refine lv_iconst (v := 1) hx hb dX5_typeSymbol_30 rfl ?_
  refine lv_goto (tgt := 35) hx hb dX5_typeSymbol_31 (by decide) ?_
  exact k_X5_typeSymbol_35 C0 N σ x1 x2 1 _ _ _ hP hD hS (lv_sub hl [0, 1, 2] rfl) h
set_option maxHeartbeats 4000000 in
set_option maxRecDepth 100000 in
theorem c_X5_typeSymbol (l : Launch) (D : va_G) (cI cZ : ClassId) (a5 : Nat → Nat) (N : Nat) (σ : St) (x1 x2 : Int32) : MI l yX5_typeSymbol wsX5_typeSymbol ({ frames := 1, cells := 0, slots := 0, locals := 21 } : Room) D cI cZ (wX5 a5 cI cZ) [.ref (a5 0), .int x1, .int x2] σ (f_X5_typeSymbol N σ x1 x2) := by
  refine MI.of (cc := cX5_typeSymbol) (maxL := 6) (ret := (some .int)) (own := RX5) (by decide) rfl rfl (Nat.le_of_ble_eq_true rfl) ?_
  intro r u1 h p e s m args below meth c A C0 H locs ls hP hD hS hl
  obtain ⟨hx, hb, hml, hr, hown, hts, hlocks, hA, hK, hN⟩ := id C0
  have hl : lv_has ls 6 [(0, .ref (a5 0)), (1, .int x1), (2, .int x2)] := hl
  unfold f_X5_typeSymbol at h
  refine lv_aload_n hx hb dX5_typeSymbol_0 rfl (lv_at hl 0 rfl) ?_
  refine lv_iload_n hx hb dX5_typeSymbol_1 rfl (lv_at hl 1 rfl) ?_
  refine lv_aload_n hx hb dX5_typeSymbol_2 rfl (lv_at hl 0 rfl) ?_
  refine va_get (D := D) (ci := 5) (v := .int (σ 13 0)) (C := RX5) (T := TX5) (N := 30) hx hb hts in_X5_typeSymbol_X5 hown hK hP 0 rfl rfl 13 (by decide) (hts (.fieldLink RX5 110 "TermLoomModel" "types" "I") (by decide +kernel)) (fun _ h9 => h9) rfl dX5_typeSymbol_3 ?_
  obtain ⟨q1, hq1, h⟩ := ob h
  refine mc_i (ws' := wX5 a5 cI cZ σ) (wr := ((wX5o a5 cI cZ σ) : va_W)) [] [0, 1, 2, 3, 4, 5, 6, 7, 8, 9, 10, 11, 12, 13, 14, 15, 16, 17, 18, 19, 20, 21, 22] [0, 1, 2, 3, 4, 5, 6, 7, 8, 9, 10, 11, 12, 13, 14, 15, 16, 17, 18, 19, 20, 21, 22] (va_runS (As := [.int x1, .int (σ 13 0)]) (rest := [.ref (a5 0)]) ⟨hx, hb, hml, hown, hts⟩ (c_X5_outside l D cI cZ N x1 (σ 13 0) q1.1 q1.2 hq1 H.size) (va_cwS 2 hts gX5_typeSymbol_X5_outside rfl rfl rfl (by decide +kernel) ⟨Nat.le_of_ble_eq_true rfl, Nat.le_of_ble_eq_true rfl⟩) (pS [] hP hD hK hN rfl rfl) rfl rfl hl.1 rfl (lv_room (Nat.le_of_ble_eq_true rfl)) dX5_typeSymbol_6 ⟨Nat.le_of_ble_eq_true rfl, Nat.le_of_ble_eq_true rfl⟩) hP hD hS hA rfl rfl rfl (by decide) rfl rfl (fun H locs hP hD hS => ?_)
  refine lv_if_ne (tgt := 30) hx hb dX5_typeSymbol_9 (by decide) (fun hc2 => ?_) (fun hc2 => ?_)
  · rw [if_neg hc2] at h
    exact k_X5_typeSymbol_30 C0 N σ x1 x2 _ _ _ hP hD hS (lv_sub hl [0, 1, 2] rfl) h
  · rw [if_pos hc2] at h
    refine lv_iload_n hx hb dX5_typeSymbol_12 rfl (lv_at hl 2 rfl) ?_
    refine lv_aload_n hx hb dX5_typeSymbol_13 rfl (lv_at hl 0 rfl) ?_
    refine va_get (D := D) (ci := 5) (v := .ref (a5 10)) (C := RX5) (T := TX5) (N := 30) hx hb hts in_X5_typeSymbol_X5 hown hK hP 0 rfl rfl 9 (by decide) (hts (.fieldLink RX5 29 "TermLoomModel" "wide" "[I") (by decide +kernel)) (fun _ h9 => h9) rfl dX5_typeSymbol_14 ?_
    refine lv_aload_n hx hb dX5_typeSymbol_17 rfl (lv_at hl 0 rfl) ?_
    refine va_get (D := D) (ci := 5) (v := .ref (a5 16)) (C := RX5) (T := TX5) (N := 30) hx hb hts in_X5_typeSymbol_X5 hown hK hP 0 rfl rfl 15 (by decide) (hts (.fieldLink RX5 41 "TermLoomModel" "typeAt" "[I") (by decide +kernel)) (fun _ h9 => h9) rfl dX5_typeSymbol_18 ?_
    refine lv_iload_n hx hb dX5_typeSymbol_21 rfl (lv_at hl 1 rfl) ?_
    by_cases hi : x1 < 0 ∨ 4200 ≤ (x1).toNatClampNeg
    · rw [if_pos hi] at h; exact no h
    rw [if_neg hi] at h
    refine va_iald (f := (σ 15)) hx hb hK hP 10 0 rfl rfl (i := x1) hi dX5_typeSymbol_22 ?_
    by_cases hi : (σ 15 (x1).toNatClampNeg) < 0 ∨ 16000 ≤ ((σ 15 (x1).toNatClampNeg)).toNatClampNeg
    · rw [if_pos hi] at h; exact no h
    rw [if_neg hi] at h
    refine va_iald (f := (σ 9)) hx hb hK hP 6 0 rfl rfl (i := (σ 15 (x1).toNatClampNeg)) hi dX5_typeSymbol_23 ?_
    obtain ⟨q3, hq3, h⟩ := ob h
    refine mc_i (ws' := wX5 a5 cI cZ σ) (wr := ((wX5o a5 cI cZ σ) : va_W)) [] [0, 1, 2, 3, 4, 5, 6, 7, 8, 9, 10, 11, 12, 13, 14, 15, 16, 17, 18, 19, 20, 21, 22] [0, 1, 2, 3, 4, 5, 6, 7, 8, 9, 10, 11, 12, 13, 14, 15, 16, 17, 18, 19, 20, 21, 22] (va_runS (As := [.int x2, .int (σ 9 ((σ 15 (x1).toNatClampNeg)).toNatClampNeg)]) (rest := [.ref (a5 0)]) ⟨hx, hb, hml, hown, hts⟩ (c_X5_outside l D cI cZ N x2 (σ 9 ((σ 15 (x1).toNatClampNeg)).toNatClampNeg) q3.1 q3.2 hq3 H.size) (va_cwS 2 hts gX5_typeSymbol_X5_outside rfl rfl rfl (by decide +kernel) ⟨Nat.le_of_ble_eq_true rfl, Nat.le_of_ble_eq_true rfl⟩) (pS [] hP hD hK hN rfl rfl) rfl rfl hl.1 rfl (lv_room (Nat.le_of_ble_eq_true rfl)) dX5_typeSymbol_24 ⟨Nat.le_of_ble_eq_true rfl, Nat.le_of_ble_eq_true rfl⟩) hP hD hS hA rfl rfl rfl (by decide) rfl rfl (fun H locs hP hD hS => ?_)
    refine lv_if_eq (tgt := 34) hx hb dX5_typeSymbol_27 (by decide) (fun hc4 => ?_) (fun hc4 => ?_)
    · rw [if_pos hc4] at h
      refine lv_iconst (v := 0) hx hb dX5_typeSymbol_34 rfl ?_
      exact k_X5_typeSymbol_35 C0 N σ x1 x2 0 _ _ _ hP hD hS (lv_sub hl [0, 1, 2] rfl) h
    · rw [if_neg hc4] at h
      exact k_X5_typeSymbol_30 C0 N σ x1 x2 _ _ _ hP hD hS (lv_sub hl [0, 1, 2] rfl) h

def f_X5_areSameTypes_10 (N : Nat) (s0 : Int32) : Option (Int32 × Unit) := if s0 = 0 ∨ s0 = 1 then some (s0, ()) else none
def f_X5_areSameTypes (N : Nat) (x0 x1 : Int32) : Option (Int32 × Unit) := if x0 = x1 then f_X5_areSameTypes_10 N 1 else f_X5_areSameTypes_10 N 0
abbrev KP_X5_areSameTypes_10 (p : Program) (l : Launch) (e : Env) (s : State) (m : MethodId) (args : Array Value) (below : List Frame) (meth : Method) (c : Code) (D : va_G) (cI cZ : ClassId)  (A : Nat → Prop) (r : Int32) (u1 : Unit) (K : Int32 → Option (Int32 × Unit)) : Prop := ∀ (s0 : Int32) (H : Heap) (locs : List Loc) (ls : Array Slot), va_P D vwCl (wNo ()) H → va_D A (wNo ()) → va_S A s.heap H locs → lv_has ls 2 [] → K s0 = some (r, u1) → W p l e ({ frames := 0, cells := 0, slots := 0, locals := 0 } : Room) s m args below meth c H locs 0 0 (QI below args s D cI cZ (wNo) A r u1) (F0 m 10 ls [.int s0])
set_option maxHeartbeats 4000000 in
set_option maxRecDepth 100000 in
theorem k_X5_areSameTypes_10 {p : Program} {l : Launch} {e : Env} {s : State} {m : MethodId} {args : Array Value} {below : List Frame} {meth : Method} {c : Code} {D : va_G} {cI cZ : ClassId}  {A : Nat → Prop} {r : Int32} {u1 : Unit} (C0 : mB p s m args meth c D cI cZ A cX5_areSameTypes 2 (some .boolean) wsX5_areSameTypes RX5) (N : Nat) : KP_X5_areSameTypes_10 p l e s m args below meth c D cI cZ  A r u1 (f_X5_areSameTypes_10 N) := by
  obtain ⟨hx, hb, hml, hr, hown, hts, hlocks, hA, hK, hN⟩ := id C0
  intro s0 H locs ls hP hD hS hl h
  unfold f_X5_areSameTypes_10 at h
  by_cases hz : s0 = 0 ∨ s0 = 1
  · rw [if_pos hz] at h
    obtain ⟨rfl, rfl⟩ := so h
    exact ret_z C0 hz hP hD hS dX5_areSameTypes_10
  · rw [if_neg hz] at h; exact no h
set_option maxHeartbeats 4000000 in
set_option maxRecDepth 100000 in
theorem c_X5_areSameTypes (l : Launch) (D : va_G) (cI cZ : ClassId)  (N : Nat) (x0 x1 : Int32) : MI l yX5_areSameTypes wsX5_areSameTypes ({ frames := 0, cells := 0, slots := 0, locals := 0 } : Room) D cI cZ (wNo) [.int x0, .int x1] () (f_X5_areSameTypes N x0 x1) := by
  refine MI.of (cc := cX5_areSameTypes) (maxL := 2) (ret := (some .boolean)) (own := RX5) (by decide) rfl rfl (Nat.le_of_ble_eq_true rfl) ?_
  intro r u1 h p e s m args below meth c A C0 H locs ls hP hD hS hl
  obtain ⟨hx, hb, hml, hr, hown, hts, hlocks, hA, hK, hN⟩ := id C0
  have hl : lv_has ls 2 [(0, .int x0), (1, .int x1)] := hl
  unfold f_X5_areSameTypes at h
  refine lv_iload_n hx hb dX5_areSameTypes_0 rfl (lv_at hl 0 rfl) ?_
  refine lv_iload_n hx hb dX5_areSameTypes_1 rfl (lv_at hl 1 rfl) ?_
  refine lv_icmp_ne (tgt := 9) hx hb dX5_areSameTypes_2 (by decide) (fun hc1 => ?_) (fun hc1 => ?_)
  · rw [if_neg hc1] at h
    refine lv_iconst (v := 0) hx hb dX5_areSameTypes_9 rfl ?_
    exact k_X5_areSameTypes_10 C0 N 0 _ _ _ hP hD hS (lv_sub hl [] rfl) h
  · rw [if_pos hc1] at h
    refine lv_iconst (v := 1) hx hb dX5_areSameTypes_5 rfl ?_
    refine lv_goto (tgt := 10) hx hb dX5_areSameTypes_6 (by decide) ?_
    exact k_X5_areSameTypes_10 C0 N 1 _ _ _ hP hD hS (lv_sub hl [] rfl) h

theorem in_X5_freeTypes_X5 : ∀ w ∈ u_ws RX5 TX5 30, w ∈ wsX5_freeTypes := by decide +kernel
def f_X5_freeTypes_2 (N : Nat) : Nat → St → Int32 → Option (St)
  | 0, _, _ => none
  | n + 1, σ, x1 => if 1000 ≤ x1 then some σ else if x1 < 0 ∨ 1000 ≤ (x1).toNatClampNeg then none else bnd (up2 σ 25 (x1).toNatClampNeg (-1)) (fun σ2 => f_X5_freeTypes_2 N n σ2 (x1 + 1))
def f_X5_freeTypes (N : Nat) (σ : St) : Option (St) := f_X5_freeTypes_2 N N σ 0
abbrev KP_X5_freeTypes_2 (p : Program) (l : Launch) (e : Env) (s : State) (m : MethodId) (args : Array Value) (below : List Frame) (meth : Method) (c : Code) (D : va_G) (cI cZ : ClassId) (a5 : Nat → Nat) (A : Nat → Prop) (u1 : St) (K : St → Int32 → Option (St)) : Prop := ∀ (σ : St) (x1 : Int32) (H : Heap) (locs : List Loc) (ls : Array Slot), va_P D vwCl (wX5 a5 cI cZ σ) H → va_D A (wX5 a5 cI cZ σ) → va_S A s.heap H locs → lv_has ls 2 [(0, .ref (a5 0)), (1, .int x1)] → K σ x1 = some u1 → W p l e ({ frames := 0, cells := 0, slots := 0, locals := 0 } : Room) s m args below meth c H locs 0 0 (QV below args s D cI cZ (wX5 a5 cI cZ) A u1) (F0 m 2 ls [])
set_option maxHeartbeats 4000000 in
set_option maxRecDepth 100000 in
theorem k_X5_freeTypes_2 {p : Program} {l : Launch} {e : Env} {s : State} {m : MethodId} {args : Array Value} {below : List Frame} {meth : Method} {c : Code} {D : va_G} {cI cZ : ClassId} {a5 : Nat → Nat} {A : Nat → Prop} {u1 : St} (C0 : mB p s m args meth c D cI cZ A cX5_freeTypes 2 none wsX5_freeTypes RX5) (N : Nat) : ∀ n : Nat, KP_X5_freeTypes_2 p l e s m args below meth c D cI cZ a5 A u1 (f_X5_freeTypes_2 N n) := by
  obtain ⟨hx, hb, hml, hr, hown, hts, hlocks, hA, hK, hN⟩ := id C0
  intro n
  induction n with
  | zero =>
    intro σ x1 H locs ls hP hD hS hl h
    exact no (show (none : Option (St)) = _ from h)
  | succ n ih =>
    intro σ x1 H locs ls hP hD hS hl h
    rw [f_X5_freeTypes_2] at h
    refine lv_iload_n hx hb dX5_freeTypes_2 rfl (lv_at hl 1 rfl) ?_
    refine lv_sipush (v := 1000) hx hb dX5_freeTypes_3 rfl ?_
    refine lv_icmp_ge (tgt := 22) hx hb dX5_freeTypes_6 (by decide) (fun hc1 => ?_) (fun hc1 => ?_)
    · rw [if_pos hc1] at h
      obtain rfl := so1 h
      exact ret_v C0 hP hD hS dX5_freeTypes_22
    · rw [if_neg hc1] at h
      refine lv_aload_n hx hb dX5_freeTypes_9 rfl (lv_at hl 0 rfl) ?_
      refine va_get (D := D) (ci := 5) (v := .ref (a5 26)) (C := RX5) (T := TX5) (N := 30) hx hb hts in_X5_freeTypes_X5 hown hK hP 0 rfl rfl 25 (by decide) (hts (.fieldLink RX5 70 "TermLoomModel" "becomes" "[I") (by decide +kernel)) (fun _ h9 => h9) rfl dX5_freeTypes_10 ?_
      refine lv_iload_n hx hb dX5_freeTypes_13 rfl (lv_at hl 1 rfl) ?_
      refine lv_iconst (v := (-1)) hx hb dX5_freeTypes_14 rfl ?_
      by_cases hi : x1 < 0 ∨ 1000 ≤ (x1).toNatClampNeg
      · rw [if_pos hi] at h; exact no h
      rw [if_neg hi] at h
      refine va_iast (f := (σ 25)) hx hb hK hP hD hS 19 0 rfl rfl (i := x1) (x := (-1)) hi dX5_freeTypes_15 (fun H locs hP hD hS => ?_)
      obtain ⟨σ2, eσ2, h⟩ := bn h
      have hP : va_P D vwCl (wX5 a5 cI cZ σ2) H := by rw [eσ2]; exact hP
      have hD : va_D A (wX5 a5 cI cZ σ2) := by rw [eσ2]; exact hD
      refine lv_iinc (v := (x1 + 1)) (lv' := [(1, .int (x1 + 1)), (0, .ref (a5 0))]) hx hb dX5_freeTypes_16 hl (k := 1) rfl rfl (by decide) rfl (fun ls hl => ?_)
      refine lv_goto (tgt := 2) hx hb dX5_freeTypes_19 (by decide) ?_
      exact ih σ2 (x1 + 1) _ _ _ hP hD hS (lv_sub hl [1, 0] rfl) h
set_option maxHeartbeats 4000000 in
set_option maxRecDepth 100000 in
theorem c_X5_freeTypes (l : Launch) (D : va_G) (cI cZ : ClassId) (a5 : Nat → Nat) (N : Nat) (σ : St) : MV l yX5_freeTypes wsX5_freeTypes ({ frames := 0, cells := 0, slots := 0, locals := 0 } : Room) D cI cZ (wX5 a5 cI cZ) [.ref (a5 0)] σ (f_X5_freeTypes N σ) := by
  refine MV.of (cc := cX5_freeTypes) (maxL := 2) (ret := none) (own := RX5) (by decide) rfl rfl (Nat.le_of_ble_eq_true rfl) ?_
  intro u1 h p e s m args below meth c A C0 H locs ls hP hD hS hl
  obtain ⟨hx, hb, hml, hr, hown, hts, hlocks, hA, hK, hN⟩ := id C0
  have hl : lv_has ls 2 [(0, .ref (a5 0))] := hl
  unfold f_X5_freeTypes at h
  refine lv_iconst (v := 0) hx hb dX5_freeTypes_0 rfl ?_
  refine lv_istore_n (lv' := [(1, .int 0), (0, .ref (a5 0))]) hx hb dX5_freeTypes_1 rfl hl (by decide) rfl (fun ls hl => ?_)
  exact k_X5_freeTypes_2 C0 N N σ 0 _ _ _ hP hD hS (lv_sub hl [1, 0] rfl) h

theorem in_X5_fits_X5 : ∀ w ∈ u_ws RX5 TX5 30, w ∈ wsX5_fits := by decide +kernel
def f_X5_fits_193 (N : Nat) (k16 : St → Int32 → Option (Int32 × St)) (σ : St) (x3 : Int32) : Option (Int32 × St) := k16 σ x3
def f_X5_fits_153 (N : Nat) (k16 : St → Int32 → Option (Int32 × St)) (σ : St) (x3 x4 x5 : Int32) : Option (Int32 × St) := if x4 < 0 ∨ 16000 ≤ (x4).toNatClampNeg then none else if (σ 7 (x4).toNatClampNeg) = (-1) then f_X5_fits_193 N k16 σ x3 else if x4 < 0 ∨ 16000 ≤ (x4).toNatClampNeg then none else if x3 < 0 ∨ 64 ≤ (x3).toNatClampNeg then none else bnd (up2 σ 22 (x3).toNatClampNeg (σ 7 (x4).toNatClampNeg)) (fun σ2 => if x5 < 0 ∨ 16000 ≤ (x5).toNatClampNeg then none else if x3 < 0 ∨ 64 ≤ (x3).toNatClampNeg then none else bnd (up2 σ2 23 (x3).toNatClampNeg (σ2 7 (x5).toNatClampNeg)) (fun σ3 => f_X5_fits_193 N k16 σ3 (x3 + 1)))
def f_X5_fits_80 (N : Nat) (k16 : St → Int32 → Option (Int32 × St)) (σ : St) (x3 x5 x6 : Int32) : Option (Int32 × St) := if x6 < 0 ∨ 1000 ≤ (x6).toNatClampNeg then none else if (σ 25 (x6).toNatClampNeg) = x5 then k16 σ x3 else some (0, σ)
def f_X5_fits_16 (N : Nat) : Nat → St → Int32 → Option (Int32 × St)
  | 0, _, _ => none
  | n + 1, σ, x3 => if x3 ≤ 0 then some (1, σ) else if (x3 + (-1)) < 0 ∨ 64 ≤ ((x3 + (-1))).toNatClampNeg then none else if (x3 + (-1)) < 0 ∨ 64 ≤ ((x3 + (-1))).toNatClampNeg then none else if (σ 22 ((x3 + (-1))).toNatClampNeg) < 0 ∨ 16000 ≤ ((σ 22 ((x3 + (-1))).toNatClampNeg)).toNatClampNeg then none else if 0 ≤ (σ 6 ((σ 22 ((x3 + (-1))).toNatClampNeg)).toNatClampNeg) then if (σ 22 ((x3 + (-1))).toNatClampNeg) < 0 ∨ 16000 ≤ ((σ 22 ((x3 + (-1))).toNatClampNeg)).toNatClampNeg then none else if (σ 23 ((x3 + (-1))).toNatClampNeg) < 0 ∨ 16000 ≤ ((σ 23 ((x3 + (-1))).toNatClampNeg)).toNatClampNeg then none else if (σ 6 ((σ 22 ((x3 + (-1))).toNatClampNeg)).toNatClampNeg) = (σ 6 ((σ 23 ((x3 + (-1))).toNatClampNeg)).toNatClampNeg) then if (σ 22 ((x3 + (-1))).toNatClampNeg) < 0 ∨ 16000 ≤ ((σ 22 ((x3 + (-1))).toNatClampNeg)).toNatClampNeg then none else if (σ 8 ((σ 22 ((x3 + (-1))).toNatClampNeg)).toNatClampNeg) = (-1) then f_X5_fits_153 N (f_X5_fits_16 N n) σ (x3 + (-1)) (σ 22 ((x3 + (-1))).toNatClampNeg) (σ 23 ((x3 + (-1))).toNatClampNeg) else if (σ 22 ((x3 + (-1))).toNatClampNeg) < 0 ∨ 16000 ≤ ((σ 22 ((x3 + (-1))).toNatClampNeg)).toNatClampNeg then none else if (x3 + (-1)) < 0 ∨ 64 ≤ ((x3 + (-1))).toNatClampNeg then none else bnd (up2 σ 22 ((x3 + (-1))).toNatClampNeg (σ 8 ((σ 22 ((x3 + (-1))).toNatClampNeg)).toNatClampNeg)) (fun σ5 => if (σ 23 ((x3 + (-1))).toNatClampNeg) < 0 ∨ 16000 ≤ ((σ 23 ((x3 + (-1))).toNatClampNeg)).toNatClampNeg then none else if (x3 + (-1)) < 0 ∨ 64 ≤ ((x3 + (-1))).toNatClampNeg then none else bnd (up2 σ5 23 ((x3 + (-1))).toNatClampNeg (σ5 8 ((σ 23 ((x3 + (-1))).toNatClampNeg)).toNatClampNeg)) (fun σ6 => f_X5_fits_153 N (f_X5_fits_16 N n) σ6 ((x3 + (-1)) + 1) (σ 22 ((x3 + (-1))).toNatClampNeg) (σ 23 ((x3 + (-1))).toNatClampNeg))) else some (0, σ) else if (σ 22 ((x3 + (-1))).toNatClampNeg) < 0 ∨ 16000 ≤ ((σ 22 ((x3 + (-1))).toNatClampNeg)).toNatClampNeg then none else if ((-1) - (σ 6 ((σ 22 ((x3 + (-1))).toNatClampNeg)).toNatClampNeg)) < 0 ∨ 1000 ≤ (((-1) - (σ 6 ((σ 22 ((x3 + (-1))).toNatClampNeg)).toNatClampNeg))).toNatClampNeg then none else if (σ 25 (((-1) - (σ 6 ((σ 22 ((x3 + (-1))).toNatClampNeg)).toNatClampNeg))).toNatClampNeg) = (-1) then if ((-1) - (σ 6 ((σ 22 ((x3 + (-1))).toNatClampNeg)).toNatClampNeg)) < 0 ∨ 1000 ≤ (((-1) - (σ 6 ((σ 22 ((x3 + (-1))).toNatClampNeg)).toNatClampNeg))).toNatClampNeg then none else bnd (up2 σ 25 (((-1) - (σ 6 ((σ 22 ((x3 + (-1))).toNatClampNeg)).toNatClampNeg))).toNatClampNeg (σ 23 ((x3 + (-1))).toNatClampNeg)) (fun σ8 => f_X5_fits_80 N (f_X5_fits_16 N n) σ8 (x3 + (-1)) (σ 23 ((x3 + (-1))).toNatClampNeg) ((-1) - (σ 6 ((σ 22 ((x3 + (-1))).toNatClampNeg)).toNatClampNeg))) else f_X5_fits_80 N (f_X5_fits_16 N n) σ (x3 + (-1)) (σ 23 ((x3 + (-1))).toNatClampNeg) ((-1) - (σ 6 ((σ 22 ((x3 + (-1))).toNatClampNeg)).toNatClampNeg))
def f_X5_fits (N : Nat) (σ : St) (x1 x2 : Int32) : Option (Int32 × St) := if (0 : Int32) < 0 ∨ 64 ≤ ((0 : Int32)).toNatClampNeg then none else bnd (up2 σ 22 ((0 : Int32)).toNatClampNeg x1) (fun σ1 => if (0 : Int32) < 0 ∨ 64 ≤ ((0 : Int32)).toNatClampNeg then none else bnd (up2 σ1 23 ((0 : Int32)).toNatClampNeg x2) (fun σ2 => f_X5_fits_16 N N σ2 1))
abbrev KP_X5_fits_193 (p : Program) (l : Launch) (e : Env) (s : State) (m : MethodId) (args : Array Value) (below : List Frame) (meth : Method) (c : Code) (D : va_G) (cI cZ : ClassId) (a5 : Nat → Nat) (A : Nat → Prop) (r : Int32) (u1 : St) (K : St → Int32 → Option (Int32 × St)) : Prop := ∀ (σ : St) (x3 : Int32) (H : Heap) (locs : List Loc) (ls : Array Slot), va_P D vwCl (wX5 a5 cI cZ σ) H → va_D A (wX5 a5 cI cZ σ) → va_S A s.heap H locs → lv_has ls 7 [(0, .ref (a5 0)), (3, .int x3)] → K σ x3 = some (r, u1) → W p l e ({ frames := 0, cells := 0, slots := 0, locals := 0 } : Room) s m args below meth c H locs 0 0 (QI below args s D cI cZ (wX5 a5 cI cZ) A r u1) (F0 m 193 ls [])
abbrev KP_X5_fits_153 (p : Program) (l : Launch) (e : Env) (s : State) (m : MethodId) (args : Array Value) (below : List Frame) (meth : Method) (c : Code) (D : va_G) (cI cZ : ClassId) (a5 : Nat → Nat) (A : Nat → Prop) (r : Int32) (u1 : St) (K : St → Int32 → Int32 → Int32 → Option (Int32 × St)) : Prop := ∀ (σ : St) (x3 x4 x5 : Int32) (H : Heap) (locs : List Loc) (ls : Array Slot), va_P D vwCl (wX5 a5 cI cZ σ) H → va_D A (wX5 a5 cI cZ σ) → va_S A s.heap H locs → lv_has ls 7 [(0, .ref (a5 0)), (3, .int x3), (4, .int x4), (5, .int x5)] → K σ x3 x4 x5 = some (r, u1) → W p l e ({ frames := 0, cells := 0, slots := 0, locals := 0 } : Room) s m args below meth c H locs 0 0 (QI below args s D cI cZ (wX5 a5 cI cZ) A r u1) (F0 m 153 ls [])
abbrev KP_X5_fits_80 (p : Program) (l : Launch) (e : Env) (s : State) (m : MethodId) (args : Array Value) (below : List Frame) (meth : Method) (c : Code) (D : va_G) (cI cZ : ClassId) (a5 : Nat → Nat) (A : Nat → Prop) (r : Int32) (u1 : St) (K : St → Int32 → Int32 → Int32 → Option (Int32 × St)) : Prop := ∀ (σ : St) (x3 x5 x6 : Int32) (H : Heap) (locs : List Loc) (ls : Array Slot), va_P D vwCl (wX5 a5 cI cZ σ) H → va_D A (wX5 a5 cI cZ σ) → va_S A s.heap H locs → lv_has ls 7 [(0, .ref (a5 0)), (3, .int x3), (5, .int x5), (6, .int x6)] → K σ x3 x5 x6 = some (r, u1) → W p l e ({ frames := 0, cells := 0, slots := 0, locals := 0 } : Room) s m args below meth c H locs 0 0 (QI below args s D cI cZ (wX5 a5 cI cZ) A r u1) (F0 m 80 ls [])
abbrev KP_X5_fits_16 (p : Program) (l : Launch) (e : Env) (s : State) (m : MethodId) (args : Array Value) (below : List Frame) (meth : Method) (c : Code) (D : va_G) (cI cZ : ClassId) (a5 : Nat → Nat) (A : Nat → Prop) (r : Int32) (u1 : St) (K : St → Int32 → Option (Int32 × St)) : Prop := ∀ (σ : St) (x3 : Int32) (H : Heap) (locs : List Loc) (ls : Array Slot), va_P D vwCl (wX5 a5 cI cZ σ) H → va_D A (wX5 a5 cI cZ σ) → va_S A s.heap H locs → lv_has ls 7 [(0, .ref (a5 0)), (3, .int x3)] → K σ x3 = some (r, u1) → W p l e ({ frames := 0, cells := 0, slots := 0, locals := 0 } : Room) s m args below meth c H locs 0 0 (QI below args s D cI cZ (wX5 a5 cI cZ) A r u1) (F0 m 16 ls [])
set_option maxHeartbeats 4000000 in
set_option maxRecDepth 100000 in
theorem k_X5_fits_193 {p : Program} {l : Launch} {e : Env} {s : State} {m : MethodId} {args : Array Value} {below : List Frame} {meth : Method} {c : Code} {D : va_G} {cI cZ : ClassId} {a5 : Nat → Nat} {A : Nat → Prop} {r : Int32} {u1 : St} (C0 : mB p s m args meth c D cI cZ A cX5_fits 7 (some .boolean) wsX5_fits RX5) (N : Nat) (k16 : St → Int32 → Option (Int32 × St)) (hk16 : KP_X5_fits_16 p l e s m args below meth c D cI cZ a5 A r u1 k16) : KP_X5_fits_193 p l e s m args below meth c D cI cZ a5 A r u1 (f_X5_fits_193 N k16) := by
  obtain ⟨hx, hb, hml, hr, hown, hts, hlocks, hA, hK, hN⟩ := id C0
  intro σ x3 H locs ls hP hD hS hl h
  unfold f_X5_fits_193 at h
  refine lv_goto (tgt := 16) hx hb dX5_fits_193 (by decide) ?_
  exact hk16 σ x3 _ _ _ hP hD hS (lv_sub hl [0, 1] rfl) h
set_option maxHeartbeats 4000000 in
set_option maxRecDepth 100000 in
theorem k_X5_fits_153 {p : Program} {l : Launch} {e : Env} {s : State} {m : MethodId} {args : Array Value} {below : List Frame} {meth : Method} {c : Code} {D : va_G} {cI cZ : ClassId} {a5 : Nat → Nat} {A : Nat → Prop} {r : Int32} {u1 : St} (C0 : mB p s m args meth c D cI cZ A cX5_fits 7 (some .boolean) wsX5_fits RX5) (N : Nat) (k16 : St → Int32 → Option (Int32 × St)) (hk16 : KP_X5_fits_16 p l e s m args below meth c D cI cZ a5 A r u1 k16) : KP_X5_fits_153 p l e s m args below meth c D cI cZ a5 A r u1 (f_X5_fits_153 N k16) := by
  obtain ⟨hx, hb, hml, hr, hown, hts, hlocks, hA, hK, hN⟩ := id C0
  intro σ x3 x4 x5 H locs ls hP hD hS hl h
  unfold f_X5_fits_153 at h
  refine lv_aload_n hx hb dX5_fits_153 rfl (lv_at hl 0 rfl) ?_
  refine va_get (D := D) (ci := 5) (v := .ref (a5 8)) (C := RX5) (T := TX5) (N := 30) hx hb hts in_X5_fits_X5 hown hK hP 0 rfl rfl 7 (by decide) (hts (.fieldLink RX5 23 "TermLoomModel" "left" "[I") (by decide +kernel)) (fun _ h9 => h9) rfl dX5_fits_154 ?_
  refine lv_iload hx hb dX5_fits_157 (lv_at hl 2 rfl) ?_
  by_cases hi : x4 < 0 ∨ 16000 ≤ (x4).toNatClampNeg
  · rw [if_pos hi] at h; exact no h
  rw [if_neg hi] at h
  refine va_iald (f := (σ 7)) hx hb hK hP 4 0 rfl rfl (i := x4) hi dX5_fits_159 ?_
  refine lv_iconst (v := (-1)) hx hb dX5_fits_160 rfl ?_
  refine lv_icmp_eq (tgt := 193) hx hb dX5_fits_161 (by decide) (fun hc1 => ?_) (fun hc1 => ?_)
  · rw [if_pos hc1] at h
    exact k_X5_fits_193 C0 N k16 hk16 σ x3 _ _ _ hP hD hS (lv_sub hl [0, 1] rfl) h
  · rw [if_neg hc1] at h
    refine lv_aload_n hx hb dX5_fits_164 rfl (lv_at hl 0 rfl) ?_
    refine va_get (D := D) (ci := 5) (v := .ref (a5 23)) (C := RX5) (T := TX5) (N := 30) hx hb hts in_X5_fits_X5 hown hK hP 0 rfl rfl 22 (by decide) (hts (.fieldLink RX5 61 "TermLoomModel" "one" "[I") (by decide +kernel)) (fun _ h9 => h9) rfl dX5_fits_165 ?_
    refine lv_iload_n hx hb dX5_fits_168 rfl (lv_at hl 1 rfl) ?_
    refine lv_aload_n hx hb dX5_fits_169 rfl (lv_at hl 0 rfl) ?_
    refine va_get (D := D) (ci := 5) (v := .ref (a5 8)) (C := RX5) (T := TX5) (N := 30) hx hb hts in_X5_fits_X5 hown hK hP 0 rfl rfl 7 (by decide) (hts (.fieldLink RX5 23 "TermLoomModel" "left" "[I") (by decide +kernel)) (fun _ h9 => h9) rfl dX5_fits_170 ?_
    refine lv_iload hx hb dX5_fits_173 (lv_at hl 2 rfl) ?_
    by_cases hi : x4 < 0 ∨ 16000 ≤ (x4).toNatClampNeg
    · rw [if_pos hi] at h; exact no h
    rw [if_neg hi] at h
    refine va_iald (f := (σ 7)) hx hb hK hP 4 0 rfl rfl (i := x4) hi dX5_fits_175 ?_
    by_cases hi : x3 < 0 ∨ 64 ≤ (x3).toNatClampNeg
    · rw [if_pos hi] at h; exact no h
    rw [if_neg hi] at h
    refine va_iast (f := (σ 22)) hx hb hK hP hD hS 16 0 rfl rfl (i := x3) (x := (σ 7 (x4).toNatClampNeg)) hi dX5_fits_176 (fun H locs hP hD hS => ?_)
    obtain ⟨σ2, eσ2, h⟩ := bn h
    have hP : va_P D vwCl (wX5 a5 cI cZ σ2) H := by rw [eσ2]; exact hP
    have hD : va_D A (wX5 a5 cI cZ σ2) := by rw [eσ2]; exact hD
    refine lv_aload_n hx hb dX5_fits_177 rfl (lv_at hl 0 rfl) ?_
    refine va_get (D := D) (ci := 5) (v := .ref (a5 24)) (C := RX5) (T := TX5) (N := 30) hx hb hts in_X5_fits_X5 hown hK hP 0 rfl rfl 23 (by decide) (hts (.fieldLink RX5 64 "TermLoomModel" "two" "[I") (by decide +kernel)) (fun _ h9 => h9) rfl dX5_fits_178 ?_
    refine lv_iload_n hx hb dX5_fits_181 rfl (lv_at hl 1 rfl) ?_
    refine lv_aload_n hx hb dX5_fits_182 rfl (lv_at hl 0 rfl) ?_
    refine va_get (D := D) (ci := 5) (v := .ref (a5 8)) (C := RX5) (T := TX5) (N := 30) hx hb hts in_X5_fits_X5 hown hK hP 0 rfl rfl 7 (by decide) (hts (.fieldLink RX5 23 "TermLoomModel" "left" "[I") (by decide +kernel)) (fun _ h9 => h9) rfl dX5_fits_183 ?_
    refine lv_iload hx hb dX5_fits_186 (lv_at hl 3 rfl) ?_
    by_cases hi : x5 < 0 ∨ 16000 ≤ (x5).toNatClampNeg
    · rw [if_pos hi] at h; exact no h
    rw [if_neg hi] at h
    refine va_iald (f := (σ2 7)) hx hb hK hP 4 0 rfl rfl (i := x5) hi dX5_fits_188 ?_
    by_cases hi : x3 < 0 ∨ 64 ≤ (x3).toNatClampNeg
    · rw [if_pos hi] at h; exact no h
    rw [if_neg hi] at h
    refine va_iast (f := (σ2 23)) hx hb hK hP hD hS 17 0 rfl rfl (i := x3) (x := (σ2 7 (x5).toNatClampNeg)) hi dX5_fits_189 (fun H locs hP hD hS => ?_)
    obtain ⟨σ3, eσ3, h⟩ := bn h
    have hP : va_P D vwCl (wX5 a5 cI cZ σ3) H := by rw [eσ3]; exact hP
    have hD : va_D A (wX5 a5 cI cZ σ3) := by rw [eσ3]; exact hD
    refine lv_iinc (v := (x3 + 1)) (lv' := [(3, .int (x3 + 1)), (0, .ref (a5 0)), (4, .int x4), (5, .int x5)]) hx hb dX5_fits_190 hl (k := 1) rfl rfl (by decide) rfl (fun ls hl => ?_)
    exact k_X5_fits_193 C0 N k16 hk16 σ3 (x3 + 1) _ _ _ hP hD hS (lv_sub hl [1, 0] rfl) h
set_option maxHeartbeats 4000000 in
set_option maxRecDepth 100000 in
theorem k_X5_fits_80 {p : Program} {l : Launch} {e : Env} {s : State} {m : MethodId} {args : Array Value} {below : List Frame} {meth : Method} {c : Code} {D : va_G} {cI cZ : ClassId} {a5 : Nat → Nat} {A : Nat → Prop} {r : Int32} {u1 : St} (C0 : mB p s m args meth c D cI cZ A cX5_fits 7 (some .boolean) wsX5_fits RX5) (N : Nat) (k16 : St → Int32 → Option (Int32 × St)) (hk16 : KP_X5_fits_16 p l e s m args below meth c D cI cZ a5 A r u1 k16) : KP_X5_fits_80 p l e s m args below meth c D cI cZ a5 A r u1 (f_X5_fits_80 N k16) := by
  obtain ⟨hx, hb, hml, hr, hown, hts, hlocks, hA, hK, hN⟩ := id C0
  intro σ x3 x5 x6 H locs ls hP hD hS hl h
  unfold f_X5_fits_80 at h
  refine lv_aload_n hx hb dX5_fits_80 rfl (lv_at hl 0 rfl) ?_
  refine va_get (D := D) (ci := 5) (v := .ref (a5 26)) (C := RX5) (T := TX5) (N := 30) hx hb hts in_X5_fits_X5 hown hK hP 0 rfl rfl 25 (by decide) (hts (.fieldLink RX5 70 "TermLoomModel" "becomes" "[I") (by decide +kernel)) (fun _ h9 => h9) rfl dX5_fits_81 ?_
  refine lv_iload hx hb dX5_fits_84 (lv_at hl 3 rfl) ?_
  by_cases hi : x6 < 0 ∨ 1000 ≤ (x6).toNatClampNeg
  · rw [if_pos hi] at h; exact no h
  rw [if_neg hi] at h
  refine va_iald (f := (σ 25)) hx hb hK hP 19 0 rfl rfl (i := x6) hi dX5_fits_86 ?_
  refine lv_iload hx hb dX5_fits_87 (lv_at hl 2 rfl) ?_
  refine lv_icmp_eq (tgt := 16) hx hb dX5_fits_89 (by decide) (fun hc1 => ?_) (fun hc1 => ?_)
  · rw [if_pos hc1] at h
    exact hk16 σ x3 _ _ _ hP hD hS (lv_sub hl [0, 1] rfl) h
  · rw [if_neg hc1] at h
    refine lv_iconst (v := 0) hx hb dX5_fits_92 rfl ?_
    obtain ⟨rfl, rfl⟩ := so h
    exact ret_z C0 (Or.inl rfl) hP hD hS dX5_fits_93
set_option maxHeartbeats 4000000 in
set_option maxRecDepth 100000 in
theorem k_X5_fits_16 {p : Program} {l : Launch} {e : Env} {s : State} {m : MethodId} {args : Array Value} {below : List Frame} {meth : Method} {c : Code} {D : va_G} {cI cZ : ClassId} {a5 : Nat → Nat} {A : Nat → Prop} {r : Int32} {u1 : St} (C0 : mB p s m args meth c D cI cZ A cX5_fits 7 (some .boolean) wsX5_fits RX5) (N : Nat) : ∀ n : Nat, KP_X5_fits_16 p l e s m args below meth c D cI cZ a5 A r u1 (f_X5_fits_16 N n) := by
  obtain ⟨hx, hb, hml, hr, hown, hts, hlocks, hA, hK, hN⟩ := id C0
  intro n
  induction n with
  | zero =>
    intro σ x3 H locs ls hP hD hS hl h
    exact no (show (none : Option (Int32 × St)) = _ from h)
  | succ n ih =>
    intro σ x3 H locs ls hP hD hS hl h
    rw [f_X5_fits_16] at h
    refine lv_iload_n hx hb dX5_fits_16 rfl (lv_at hl 1 rfl) ?_
    refine lv_if_le (tgt := 196) hx hb dX5_fits_17 (by decide) (fun hc1 => ?_) (fun hc1 => ?_)
    · rw [if_pos hc1] at h
      refine lv_iconst (v := 1) hx hb dX5_fits_196 rfl ?_
      obtain ⟨rfl, rfl⟩ := so h
      exact ret_z C0 (Or.inr rfl) hP hD hS dX5_fits_197
    · rw [if_neg hc1] at h
      refine lv_iinc (v := (x3 + (-1))) (lv' := [(3, .int (x3 + (-1))), (0, .ref (a5 0))]) hx hb dX5_fits_20 hl (k := 1) rfl rfl (by decide) rfl (fun ls hl => ?_)
      refine lv_aload_n hx hb dX5_fits_23 rfl (lv_at hl 1 rfl) ?_
      refine va_get (D := D) (ci := 5) (v := .ref (a5 23)) (C := RX5) (T := TX5) (N := 30) hx hb hts in_X5_fits_X5 hown hK hP 0 rfl rfl 22 (by decide) (hts (.fieldLink RX5 61 "TermLoomModel" "one" "[I") (by decide +kernel)) (fun _ h9 => h9) rfl dX5_fits_24 ?_
      refine lv_iload_n hx hb dX5_fits_27 rfl (lv_at hl 0 rfl) ?_
      by_cases hi : (x3 + (-1)) < 0 ∨ 64 ≤ ((x3 + (-1))).toNatClampNeg
      · rw [if_pos hi] at h; exact no h
      rw [if_neg hi] at h
      refine va_iald (f := (σ 22)) hx hb hK hP 16 0 rfl rfl (i := (x3 + (-1))) hi dX5_fits_28 ?_
      refine lv_istore (lv' := [(4, .int (σ 22 ((x3 + (-1))).toNatClampNeg)), (3, .int (x3 + (-1))), (0, .ref (a5 0))]) hx hb dX5_fits_29 hl (by decide) rfl (fun ls hl => ?_)
      refine lv_aload_n hx hb dX5_fits_31 rfl (lv_at hl 2 rfl) ?_
      refine va_get (D := D) (ci := 5) (v := .ref (a5 24)) (C := RX5) (T := TX5) (N := 30) hx hb hts in_X5_fits_X5 hown hK hP 0 rfl rfl 23 (by decide) (hts (.fieldLink RX5 64 "TermLoomModel" "two" "[I") (by decide +kernel)) (fun _ h9 => h9) rfl dX5_fits_32 ?_
      refine lv_iload_n hx hb dX5_fits_35 rfl (lv_at hl 1 rfl) ?_
      by_cases hi : (x3 + (-1)) < 0 ∨ 64 ≤ ((x3 + (-1))).toNatClampNeg
      · rw [if_pos hi] at h; exact no h
      rw [if_neg hi] at h
      refine va_iald (f := (σ 23)) hx hb hK hP 17 0 rfl rfl (i := (x3 + (-1))) hi dX5_fits_36 ?_
      refine lv_istore (lv' := [(5, .int (σ 23 ((x3 + (-1))).toNatClampNeg)), (4, .int (σ 22 ((x3 + (-1))).toNatClampNeg)), (3, .int (x3 + (-1))), (0, .ref (a5 0))]) hx hb dX5_fits_37 hl (by decide) rfl (fun ls hl => ?_)
      refine lv_aload_n hx hb dX5_fits_39 rfl (lv_at hl 3 rfl) ?_
      refine va_get (D := D) (ci := 5) (v := .ref (a5 7)) (C := RX5) (T := TX5) (N := 30) hx hb hts in_X5_fits_X5 hown hK hP 0 rfl rfl 6 (by decide) (hts (.fieldLink RX5 20 "TermLoomModel" "head" "[I") (by decide +kernel)) (fun _ h9 => h9) rfl dX5_fits_40 ?_
      refine lv_iload hx hb dX5_fits_43 (lv_at hl 1 rfl) ?_
      by_cases hi : (σ 22 ((x3 + (-1))).toNatClampNeg) < 0 ∨ 16000 ≤ ((σ 22 ((x3 + (-1))).toNatClampNeg)).toNatClampNeg
      · rw [if_pos hi] at h; exact no h
      rw [if_neg hi] at h
      refine va_iald (f := (σ 6)) hx hb hK hP 3 0 rfl rfl (i := (σ 22 ((x3 + (-1))).toNatClampNeg)) hi dX5_fits_45 ?_
      refine lv_if_ge (tgt := 94) hx hb dX5_fits_46 (by decide) (fun hc2 => ?_) (fun hc2 => ?_)
      · rw [if_pos hc2] at h
        refine lv_aload_n hx hb dX5_fits_94 rfl (lv_at hl 3 rfl) ?_
        refine va_get (D := D) (ci := 5) (v := .ref (a5 7)) (C := RX5) (T := TX5) (N := 30) hx hb hts in_X5_fits_X5 hown hK hP 0 rfl rfl 6 (by decide) (hts (.fieldLink RX5 20 "TermLoomModel" "head" "[I") (by decide +kernel)) (fun _ h9 => h9) rfl dX5_fits_95 ?_
        refine lv_iload hx hb dX5_fits_98 (lv_at hl 1 rfl) ?_
        by_cases hi : (σ 22 ((x3 + (-1))).toNatClampNeg) < 0 ∨ 16000 ≤ ((σ 22 ((x3 + (-1))).toNatClampNeg)).toNatClampNeg
        · rw [if_pos hi] at h; exact no h
        rw [if_neg hi] at h
        refine va_iald (f := (σ 6)) hx hb hK hP 3 0 rfl rfl (i := (σ 22 ((x3 + (-1))).toNatClampNeg)) hi dX5_fits_100 ?_
        refine lv_aload_n hx hb dX5_fits_101 rfl (lv_at hl 3 rfl) ?_
        refine va_get (D := D) (ci := 5) (v := .ref (a5 7)) (C := RX5) (T := TX5) (N := 30) hx hb hts in_X5_fits_X5 hown hK hP 0 rfl rfl 6 (by decide) (hts (.fieldLink RX5 20 "TermLoomModel" "head" "[I") (by decide +kernel)) (fun _ h9 => h9) rfl dX5_fits_102 ?_
        refine lv_iload hx hb dX5_fits_105 (lv_at hl 0 rfl) ?_
        by_cases hi : (σ 23 ((x3 + (-1))).toNatClampNeg) < 0 ∨ 16000 ≤ ((σ 23 ((x3 + (-1))).toNatClampNeg)).toNatClampNeg
        · rw [if_pos hi] at h; exact no h
        rw [if_neg hi] at h
        refine va_iald (f := (σ 6)) hx hb hK hP 3 0 rfl rfl (i := (σ 23 ((x3 + (-1))).toNatClampNeg)) hi dX5_fits_107 ?_
        refine lv_icmp_eq (tgt := 113) hx hb dX5_fits_108 (by decide) (fun hc3 => ?_) (fun hc3 => ?_)
        · rw [if_pos hc3] at h
          refine lv_aload_n hx hb dX5_fits_113 rfl (lv_at hl 3 rfl) ?_
          refine va_get (D := D) (ci := 5) (v := .ref (a5 9)) (C := RX5) (T := TX5) (N := 30) hx hb hts in_X5_fits_X5 hown hK hP 0 rfl rfl 8 (by decide) (hts (.fieldLink RX5 26 "TermLoomModel" "right" "[I") (by decide +kernel)) (fun _ h9 => h9) rfl dX5_fits_114 ?_
          refine lv_iload hx hb dX5_fits_117 (lv_at hl 1 rfl) ?_
          by_cases hi : (σ 22 ((x3 + (-1))).toNatClampNeg) < 0 ∨ 16000 ≤ ((σ 22 ((x3 + (-1))).toNatClampNeg)).toNatClampNeg
          · rw [if_pos hi] at h; exact no h
          rw [if_neg hi] at h
          refine va_iald (f := (σ 8)) hx hb hK hP 5 0 rfl rfl (i := (σ 22 ((x3 + (-1))).toNatClampNeg)) hi dX5_fits_119 ?_
          refine lv_iconst (v := (-1)) hx hb dX5_fits_120 rfl ?_
          refine lv_icmp_eq (tgt := 153) hx hb dX5_fits_121 (by decide) (fun hc4 => ?_) (fun hc4 => ?_)
          · rw [if_pos hc4] at h
            exact k_X5_fits_153 C0 N (f_X5_fits_16 N n) ih σ (x3 + (-1)) (σ 22 ((x3 + (-1))).toNatClampNeg) (σ 23 ((x3 + (-1))).toNatClampNeg) _ _ _ hP hD hS (lv_sub hl [3, 2, 1, 0] rfl) h
          · rw [if_neg hc4] at h
            refine lv_aload_n hx hb dX5_fits_124 rfl (lv_at hl 3 rfl) ?_
            refine va_get (D := D) (ci := 5) (v := .ref (a5 23)) (C := RX5) (T := TX5) (N := 30) hx hb hts in_X5_fits_X5 hown hK hP 0 rfl rfl 22 (by decide) (hts (.fieldLink RX5 61 "TermLoomModel" "one" "[I") (by decide +kernel)) (fun _ h9 => h9) rfl dX5_fits_125 ?_
            refine lv_iload_n hx hb dX5_fits_128 rfl (lv_at hl 2 rfl) ?_
            refine lv_aload_n hx hb dX5_fits_129 rfl (lv_at hl 3 rfl) ?_
            refine va_get (D := D) (ci := 5) (v := .ref (a5 9)) (C := RX5) (T := TX5) (N := 30) hx hb hts in_X5_fits_X5 hown hK hP 0 rfl rfl 8 (by decide) (hts (.fieldLink RX5 26 "TermLoomModel" "right" "[I") (by decide +kernel)) (fun _ h9 => h9) rfl dX5_fits_130 ?_
            refine lv_iload hx hb dX5_fits_133 (lv_at hl 1 rfl) ?_
            by_cases hi : (σ 22 ((x3 + (-1))).toNatClampNeg) < 0 ∨ 16000 ≤ ((σ 22 ((x3 + (-1))).toNatClampNeg)).toNatClampNeg
            · rw [if_pos hi] at h; exact no h
            rw [if_neg hi] at h
            refine va_iald (f := (σ 8)) hx hb hK hP 5 0 rfl rfl (i := (σ 22 ((x3 + (-1))).toNatClampNeg)) hi dX5_fits_135 ?_
            by_cases hi : (x3 + (-1)) < 0 ∨ 64 ≤ ((x3 + (-1))).toNatClampNeg
            · rw [if_pos hi] at h; exact no h
            rw [if_neg hi] at h
            refine va_iast (f := (σ 22)) hx hb hK hP hD hS 16 0 rfl rfl (i := (x3 + (-1))) (x := (σ 8 ((σ 22 ((x3 + (-1))).toNatClampNeg)).toNatClampNeg)) hi dX5_fits_136 (fun H locs hP hD hS => ?_)
            obtain ⟨σ5, eσ5, h⟩ := bn h
            have hP : va_P D vwCl (wX5 a5 cI cZ σ5) H := by rw [eσ5]; exact hP
            have hD : va_D A (wX5 a5 cI cZ σ5) := by rw [eσ5]; exact hD
            refine lv_aload_n hx hb dX5_fits_137 rfl (lv_at hl 3 rfl) ?_
            refine va_get (D := D) (ci := 5) (v := .ref (a5 24)) (C := RX5) (T := TX5) (N := 30) hx hb hts in_X5_fits_X5 hown hK hP 0 rfl rfl 23 (by decide) (hts (.fieldLink RX5 64 "TermLoomModel" "two" "[I") (by decide +kernel)) (fun _ h9 => h9) rfl dX5_fits_138 ?_
            refine lv_iload_n hx hb dX5_fits_141 rfl (lv_at hl 2 rfl) ?_
            refine lv_aload_n hx hb dX5_fits_142 rfl (lv_at hl 3 rfl) ?_
            refine va_get (D := D) (ci := 5) (v := .ref (a5 9)) (C := RX5) (T := TX5) (N := 30) hx hb hts in_X5_fits_X5 hown hK hP 0 rfl rfl 8 (by decide) (hts (.fieldLink RX5 26 "TermLoomModel" "right" "[I") (by decide +kernel)) (fun _ h9 => h9) rfl dX5_fits_143 ?_
            refine lv_iload hx hb dX5_fits_146 (lv_at hl 0 rfl) ?_
            by_cases hi : (σ 23 ((x3 + (-1))).toNatClampNeg) < 0 ∨ 16000 ≤ ((σ 23 ((x3 + (-1))).toNatClampNeg)).toNatClampNeg
            · rw [if_pos hi] at h; exact no h
            rw [if_neg hi] at h
            refine va_iald (f := (σ5 8)) hx hb hK hP 5 0 rfl rfl (i := (σ 23 ((x3 + (-1))).toNatClampNeg)) hi dX5_fits_148 ?_
            by_cases hi : (x3 + (-1)) < 0 ∨ 64 ≤ ((x3 + (-1))).toNatClampNeg
            · rw [if_pos hi] at h; exact no h
            rw [if_neg hi] at h
            refine va_iast (f := (σ5 23)) hx hb hK hP hD hS 17 0 rfl rfl (i := (x3 + (-1))) (x := (σ5 8 ((σ 23 ((x3 + (-1))).toNatClampNeg)).toNatClampNeg)) hi dX5_fits_149 (fun H locs hP hD hS => ?_)
            obtain ⟨σ6, eσ6, h⟩ := bn h
            have hP : va_P D vwCl (wX5 a5 cI cZ σ6) H := by rw [eσ6]; exact hP
            have hD : va_D A (wX5 a5 cI cZ σ6) := by rw [eσ6]; exact hD
            refine lv_iinc (v := ((x3 + (-1)) + 1)) (lv' := [(3, .int ((x3 + (-1)) + 1)), (5, .int (σ 23 ((x3 + (-1))).toNatClampNeg)), (4, .int (σ 22 ((x3 + (-1))).toNatClampNeg)), (0, .ref (a5 0))]) hx hb dX5_fits_150 hl (k := 2) rfl rfl (by decide) rfl (fun ls hl => ?_)
            exact k_X5_fits_153 C0 N (f_X5_fits_16 N n) ih σ6 ((x3 + (-1)) + 1) (σ 22 ((x3 + (-1))).toNatClampNeg) (σ 23 ((x3 + (-1))).toNatClampNeg) _ _ _ hP hD hS (lv_sub hl [3, 0, 2, 1] rfl) h
        · rw [if_neg hc3] at h
          refine lv_iconst (v := 0) hx hb dX5_fits_111 rfl ?_
          obtain ⟨rfl, rfl⟩ := so h
          exact ret_z C0 (Or.inl rfl) hP hD hS dX5_fits_112
      · rw [if_neg hc2] at h
        refine lv_iconst (v := (-1)) hx hb dX5_fits_49 rfl ?_
        refine lv_aload_n hx hb dX5_fits_50 rfl (lv_at hl 3 rfl) ?_
        refine va_get (D := D) (ci := 5) (v := .ref (a5 7)) (C := RX5) (T := TX5) (N := 30) hx hb hts in_X5_fits_X5 hown hK hP 0 rfl rfl 6 (by decide) (hts (.fieldLink RX5 20 "TermLoomModel" "head" "[I") (by decide +kernel)) (fun _ h9 => h9) rfl dX5_fits_51 ?_
        refine lv_iload hx hb dX5_fits_54 (lv_at hl 1 rfl) ?_
        by_cases hi : (σ 22 ((x3 + (-1))).toNatClampNeg) < 0 ∨ 16000 ≤ ((σ 22 ((x3 + (-1))).toNatClampNeg)).toNatClampNeg
        · rw [if_pos hi] at h; exact no h
        rw [if_neg hi] at h
        refine va_iald (f := (σ 6)) hx hb hK hP 3 0 rfl rfl (i := (σ 22 ((x3 + (-1))).toNatClampNeg)) hi dX5_fits_56 ?_
        refine lv_isub hx hb dX5_fits_57 ?_
        refine lv_istore (lv' := [(6, .int ((-1) - (σ 6 ((σ 22 ((x3 + (-1))).toNatClampNeg)).toNatClampNeg))), (5, .int (σ 23 ((x3 + (-1))).toNatClampNeg)), (4, .int (σ 22 ((x3 + (-1))).toNatClampNeg)), (3, .int (x3 + (-1))), (0, .ref (a5 0))]) hx hb dX5_fits_58 hl (by decide) rfl (fun ls hl => ?_)
        refine lv_aload_n hx hb dX5_fits_60 rfl (lv_at hl 4 rfl) ?_
        refine va_get (D := D) (ci := 5) (v := .ref (a5 26)) (C := RX5) (T := TX5) (N := 30) hx hb hts in_X5_fits_X5 hown hK hP 0 rfl rfl 25 (by decide) (hts (.fieldLink RX5 70 "TermLoomModel" "becomes" "[I") (by decide +kernel)) (fun _ h9 => h9) rfl dX5_fits_61 ?_
        refine lv_iload hx hb dX5_fits_64 (lv_at hl 0 rfl) ?_
        by_cases hi : ((-1) - (σ 6 ((σ 22 ((x3 + (-1))).toNatClampNeg)).toNatClampNeg)) < 0 ∨ 1000 ≤ (((-1) - (σ 6 ((σ 22 ((x3 + (-1))).toNatClampNeg)).toNatClampNeg))).toNatClampNeg
        · rw [if_pos hi] at h; exact no h
        rw [if_neg hi] at h
        refine va_iald (f := (σ 25)) hx hb hK hP 19 0 rfl rfl (i := ((-1) - (σ 6 ((σ 22 ((x3 + (-1))).toNatClampNeg)).toNatClampNeg))) hi dX5_fits_66 ?_
        refine lv_iconst (v := (-1)) hx hb dX5_fits_67 rfl ?_
        refine lv_icmp_ne (tgt := 80) hx hb dX5_fits_68 (by decide) (fun hc7 => ?_) (fun hc7 => ?_)
        · rw [if_neg hc7] at h
          exact k_X5_fits_80 C0 N (f_X5_fits_16 N n) ih σ (x3 + (-1)) (σ 23 ((x3 + (-1))).toNatClampNeg) ((-1) - (σ 6 ((σ 22 ((x3 + (-1))).toNatClampNeg)).toNatClampNeg)) _ _ _ hP hD hS (lv_sub hl [4, 3, 1, 0] rfl) h
        · rw [if_pos hc7] at h
          refine lv_aload_n hx hb dX5_fits_71 rfl (lv_at hl 4 rfl) ?_
          refine va_get (D := D) (ci := 5) (v := .ref (a5 26)) (C := RX5) (T := TX5) (N := 30) hx hb hts in_X5_fits_X5 hown hK hP 0 rfl rfl 25 (by decide) (hts (.fieldLink RX5 70 "TermLoomModel" "becomes" "[I") (by decide +kernel)) (fun _ h9 => h9) rfl dX5_fits_72 ?_
          refine lv_iload hx hb dX5_fits_75 (lv_at hl 0 rfl) ?_
          refine lv_iload hx hb dX5_fits_77 (lv_at hl 1 rfl) ?_
          by_cases hi : ((-1) - (σ 6 ((σ 22 ((x3 + (-1))).toNatClampNeg)).toNatClampNeg)) < 0 ∨ 1000 ≤ (((-1) - (σ 6 ((σ 22 ((x3 + (-1))).toNatClampNeg)).toNatClampNeg))).toNatClampNeg
          · rw [if_pos hi] at h; exact no h
          rw [if_neg hi] at h
          refine va_iast (f := (σ 25)) hx hb hK hP hD hS 19 0 rfl rfl (i := ((-1) - (σ 6 ((σ 22 ((x3 + (-1))).toNatClampNeg)).toNatClampNeg))) (x := (σ 23 ((x3 + (-1))).toNatClampNeg)) hi dX5_fits_79 (fun H locs hP hD hS => ?_)
          obtain ⟨σ8, eσ8, h⟩ := bn h
          have hP : va_P D vwCl (wX5 a5 cI cZ σ8) H := by rw [eσ8]; exact hP
          have hD : va_D A (wX5 a5 cI cZ σ8) := by rw [eσ8]; exact hD
          exact k_X5_fits_80 C0 N (f_X5_fits_16 N n) ih σ8 (x3 + (-1)) (σ 23 ((x3 + (-1))).toNatClampNeg) ((-1) - (σ 6 ((σ 22 ((x3 + (-1))).toNatClampNeg)).toNatClampNeg)) _ _ _ hP hD hS (lv_sub hl [4, 3, 1, 0] rfl) h
set_option maxHeartbeats 4000000 in
set_option maxRecDepth 100000 in
theorem c_X5_fits (l : Launch) (D : va_G) (cI cZ : ClassId) (a5 : Nat → Nat) (N : Nat) (σ : St) (x1 x2 : Int32) : MI l yX5_fits wsX5_fits ({ frames := 0, cells := 0, slots := 0, locals := 0 } : Room) D cI cZ (wX5 a5 cI cZ) [.ref (a5 0), .int x1, .int x2] σ (f_X5_fits N σ x1 x2) := by
  refine MI.of (cc := cX5_fits) (maxL := 7) (ret := (some .boolean)) (own := RX5) (by decide) rfl rfl (Nat.le_of_ble_eq_true rfl) ?_
  intro r u1 h p e s m args below meth c A C0 H locs ls hP hD hS hl
  obtain ⟨hx, hb, hml, hr, hown, hts, hlocks, hA, hK, hN⟩ := id C0
  have hl : lv_has ls 7 [(0, .ref (a5 0)), (1, .int x1), (2, .int x2)] := hl
  unfold f_X5_fits at h
  refine lv_aload_n hx hb dX5_fits_0 rfl (lv_at hl 0 rfl) ?_
  refine va_get (D := D) (ci := 5) (v := .ref (a5 23)) (C := RX5) (T := TX5) (N := 30) hx hb hts in_X5_fits_X5 hown hK hP 0 rfl rfl 22 (by decide) (hts (.fieldLink RX5 61 "TermLoomModel" "one" "[I") (by decide +kernel)) (fun _ h9 => h9) rfl dX5_fits_1 ?_
  refine lv_iconst (v := 0) hx hb dX5_fits_4 rfl ?_
  refine lv_iload_n hx hb dX5_fits_5 rfl (lv_at hl 1 rfl) ?_
  by_cases hi : (0 : Int32) < 0 ∨ 64 ≤ ((0 : Int32)).toNatClampNeg
  · rw [if_pos hi] at h; exact no h
  rw [if_neg hi] at h
  refine va_iast (f := (σ 22)) hx hb hK hP hD hS 16 0 rfl rfl (i := (0 : Int32)) (x := x1) hi dX5_fits_6 (fun H locs hP hD hS => ?_)
  obtain ⟨σ1, eσ1, h⟩ := bn h
  have hP : va_P D vwCl (wX5 a5 cI cZ σ1) H := by rw [eσ1]; exact hP
  have hD : va_D A (wX5 a5 cI cZ σ1) := by rw [eσ1]; exact hD
  refine lv_aload_n hx hb dX5_fits_7 rfl (lv_at hl 0 rfl) ?_
  refine va_get (D := D) (ci := 5) (v := .ref (a5 24)) (C := RX5) (T := TX5) (N := 30) hx hb hts in_X5_fits_X5 hown hK hP 0 rfl rfl 23 (by decide) (hts (.fieldLink RX5 64 "TermLoomModel" "two" "[I") (by decide +kernel)) (fun _ h9 => h9) rfl dX5_fits_8 ?_
  refine lv_iconst (v := 0) hx hb dX5_fits_11 rfl ?_
  refine lv_iload_n hx hb dX5_fits_12 rfl (lv_at hl 2 rfl) ?_
  by_cases hi : (0 : Int32) < 0 ∨ 64 ≤ ((0 : Int32)).toNatClampNeg
  · rw [if_pos hi] at h; exact no h
  rw [if_neg hi] at h
  refine va_iast (f := (σ1 23)) hx hb hK hP hD hS 17 0 rfl rfl (i := (0 : Int32)) (x := x2) hi dX5_fits_13 (fun H locs hP hD hS => ?_)
  obtain ⟨σ2, eσ2, h⟩ := bn h
  have hP : va_P D vwCl (wX5 a5 cI cZ σ2) H := by rw [eσ2]; exact hP
  have hD : va_D A (wX5 a5 cI cZ σ2) := by rw [eσ2]; exact hD
  refine lv_iconst (v := 1) hx hb dX5_fits_14 rfl ?_
  refine lv_istore_n (lv' := [(3, .int 1), (0, .ref (a5 0)), (1, .int x1), (2, .int x2)]) hx hb dX5_fits_15 rfl hl (by decide) rfl (fun ls hl => ?_)
  exact k_X5_fits_16 C0 N N σ2 1 _ _ _ hP hD hS (lv_sub hl [1, 0] rfl) h
