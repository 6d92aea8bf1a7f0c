theorem in_X5_exchange_X5 : ∀ w ∈ u_ws RX5 TX5 30, w ∈ wsX5_exchange := by decide +kernel
def f_X5_exchange_300 (N : Nat) (k151 : St → Int32 → Int32 → Int32 → Int32 → Option (St)) (σ : St) (x2 x3 x4 x5 : Int32) : Option (St) := k151 σ x2 x3 x4 (x5 + 1)
def f_X5_exchange_278 (N : Nat) (k151 : St → Int32 → Int32 → Int32 → Int32 → Option (St)) (σ : St) (x2 x3 x4 x5 x6 x7 : Int32) : Option (St) := if x5 < 0 ∨ 16000 ≤ (x5).toNatClampNeg then none else (f_X5_node N σ (σ 6 (x5).toNatClampNeg) x6 x7).bind (fun q1 => if x5 < 0 ∨ 16000 ≤ (x5).toNatClampNeg then none else bnd (up2 q1.2 16 (x5).toNatClampNeg q1.1) (fun σ2 => f_X5_exchange_300 N k151 σ2 x2 x3 x4 x5))
def f_X5_exchange_252 (N : Nat) (k151 : St → Int32 → Int32 → Int32 → Int32 → Option (St)) (σ : St) (x2 x3 x4 x5 x6 s0 : Int32) : Option (St) := if x5 < 0 ∨ 16000 ≤ (x5).toNatClampNeg then none else if x6 = (σ 7 (x5).toNatClampNeg) then if x5 < 0 ∨ 16000 ≤ (x5).toNatClampNeg then none else if s0 = (σ 8 (x5).toNatClampNeg) then f_X5_exchange_300 N k151 σ x2 x3 x4 x5 else f_X5_exchange_278 N k151 σ x2 x3 x4 x5 x6 s0 else f_X5_exchange_278 N k151 σ x2 x3 x4 x5 x6 s0
def f_X5_exchange_196 (N : Nat) (k151 : St → Int32 → Int32 → Int32 → Int32 → Option (St)) (σ : St) (x2 x3 x4 x5 s1 s2 : Int32) : Option (St) := if s1 < 0 ∨ 16000 ≤ (s1).toNatClampNeg then none else bnd (up2 σ 16 (s1).toNatClampNeg s2) (fun σ1 => if x5 < 0 ∨ 16000 ≤ (x5).toNatClampNeg then none else if (σ1 7 (x5).toNatClampNeg) = (-1) then f_X5_exchange_300 N k151 σ1 x2 x3 x4 x5 else if x5 < 0 ∨ 16000 ≤ (x5).toNatClampNeg then none else if (σ1 7 (x5).toNatClampNeg) < 0 ∨ 16000 ≤ ((σ1 7 (x5).toNatClampNeg)).toNatClampNeg then none else if x5 < 0 ∨ 16000 ≤ (x5).toNatClampNeg then none else if (σ1 8 (x5).toNatClampNeg) = (-1) then f_X5_exchange_252 N k151 σ1 x2 x3 x4 x5 (σ1 16 ((σ1 7 (x5).toNatClampNeg)).toNatClampNeg) (-1) else if x5 < 0 ∨ 16000 ≤ (x5).toNatClampNeg then none else if (σ1 8 (x5).toNatClampNeg) < 0 ∨ 16000 ≤ ((σ1 8 (x5).toNatClampNeg)).toNatClampNeg then none else f_X5_exchange_252 N k151 σ1 x2 x3 x4 x5 (σ1 16 ((σ1 7 (x5).toNatClampNeg)).toNatClampNeg) (σ1 16 ((σ1 8 (x5).toNatClampNeg)).toNatClampNeg))
def f_X5_exchange_151 (N : Nat) : Nat → St → Int32 → Int32 → Int32 → Int32 → Option (St)
  | 0, _, _, _, _, _ => none
  | n + 1, σ, x2, x3, x4, x5 => if x4 ≤ x5 then some σ else if x5 < 0 ∨ 16000 ≤ (x5).toNatClampNeg then none else if (σ 17 (x5).toNatClampNeg) = 0 then f_X5_exchange_300 N (f_X5_exchange_151 N n) σ x2 x3 x4 x5 else if x5 < 0 ∨ 16000 ≤ (x5).toNatClampNeg then none else if (σ 6 (x5).toNatClampNeg) = ((-1) - x2) then f_X5_exchange_196 N (f_X5_exchange_151 N n) σ x2 x3 x4 x5 x5 x3 else f_X5_exchange_196 N (f_X5_exchange_151 N n) σ x2 x3 x4 x5 x5 x5
def f_X5_exchange_142 (N : Nat) (k76 : St → Int32 → Int32 → Int32 → Int32 → Option (St)) (σ : St) (x2 x3 x4 x5 : Int32) : Option (St) := k76 σ x2 x3 x4 (x5 + (-1))
def f_X5_exchange_76 (N : Nat) : Nat → St → Int32 → Int32 → Int32 → Int32 → Option (St)
  | 0, _, _, _, _, _ => none
  | n + 1, σ, x2, x3, x4, x5 => if x5 < 0 then f_X5_exchange_151 N N σ x2 x3 x4 0 else if x5 < 0 ∨ 16000 ≤ (x5).toNatClampNeg then none else if (σ 17 (x5).toNatClampNeg) = 0 then f_X5_exchange_142 N (f_X5_exchange_76 N n) σ x2 x3 x4 x5 else if x5 < 0 ∨ 16000 ≤ (x5).toNatClampNeg then none else if (σ 7 (x5).toNatClampNeg) = (-1) then f_X5_exchange_142 N (f_X5_exchange_76 N n) σ x2 x3 x4 x5 else if x5 < 0 ∨ 16000 ≤ (x5).toNatClampNeg then none else if (σ 7 (x5).toNatClampNeg) < 0 ∨ 16000 ≤ ((σ 7 (x5).toNatClampNeg)).toNatClampNeg then none else bnd (up2 σ 17 ((σ 7 (x5).toNatClampNeg)).toNatClampNeg 1) (fun σ4 => if x5 < 0 ∨ 16000 ≤ (x5).toNatClampNeg then none else if (σ4 8 (x5).toNatClampNeg) = (-1) then f_X5_exchange_142 N (f_X5_exchange_76 N n) σ4 x2 x3 x4 x5 else if x5 < 0 ∨ 16000 ≤ (x5).toNatClampNeg then none else if (σ4 8 (x5).toNatClampNeg) < 0 ∨ 16000 ≤ ((σ4 8 (x5).toNatClampNeg)).toNatClampNeg then none else bnd (up2 σ4 17 ((σ4 8 (x5).toNatClampNeg)).toNatClampNeg 1) (fun σ6 => f_X5_exchange_142 N (f_X5_exchange_76 N n) σ6 x2 x3 x4 x5))
def f_X5_exchange_38 (N : Nat) : Nat → St → Int32 → Int32 → Int32 → Int32 → Int32 → Option (St)
  | 0, _, _, _, _, _, _ => none
  | n + 1, σ, x1, x2, x3, x4, x5 => if (x1 + 1) < 0 ∨ 4201 ≤ ((x1 + 1)).toNatClampNeg then none else if (σ 19 ((x1 + 1)).toNatClampNeg) ≤ x5 then f_X5_exchange_76 N N σ x2 x3 x4 (x4 - 1) else if x5 < 0 ∨ 34100 ≤ (x5).toNatClampNeg then none else if (σ 21 (x5).toNatClampNeg) < 0 ∨ 16000 ≤ ((σ 21 (x5).toNatClampNeg)).toNatClampNeg then none else bnd (up2 σ 17 ((σ 21 (x5).toNatClampNeg)).toNatClampNeg 1) (fun σ2 => f_X5_exchange_38 N n σ2 x1 x2 x3 x4 (x5 + 1))
def f_X5_exchange_9 (N : Nat) : Nat → St → Int32 → Int32 → Int32 → Int32 → Int32 → Option (St)
  | 0, _, _, _, _, _, _ => none
  | n + 1, σ, x1, x2, x3, x4, x5 => if x4 ≤ x5 then if x1 < 0 ∨ 4201 ≤ (x1).toNatClampNeg then none else f_X5_exchange_38 N N σ x1 x2 x3 x4 (σ 19 (x1).toNatClampNeg) else if x5 < 0 ∨ 16000 ≤ (x5).toNatClampNeg then none else bnd (up2 σ 17 (x5).toNatClampNeg 0) (fun σ2 => f_X5_exchange_9 N n σ2 x1 x2 x3 x4 (x5 + 1))
def f_X5_exchange (N : Nat) (σ : St) (x1 x2 x3 : Int32) : Option (St) := f_X5_exchange_9 N N σ x1 x2 x3 (σ 5 0) 0
abbrev KP_X5_exchange_300 (p : Program) (l : Launch) (e : Env) (s : State) (m : MethodId) (args : Array Value) (below : List Frame) (meth : Method) (c : Code) (D : va_G) (cI cZ : ClassId) (a5 : Nat → Nat) (A : Nat → Prop) (u1 : St) (K : St → Int32 → Int32 → Int32 → Int32 → Option (St)) : Prop := ∀ (σ : St) (x2 x3 x4 x5 : Int32) (H : Heap) (locs : List Loc) (ls : Array Slot), va_P D vwCl (wX5 a5 cI cZ σ) H → va_D A (wX5 a5 cI cZ σ) → va_S A s.heap H locs → lv_has ls 8 [(0, .ref (a5 0)), (2, .int x2), (3, .int x3), (4, .int x4), (5, .int x5)] → K σ x2 x3 x4 x5 = some u1 → W p l e ({ frames := 2, cells := 0, slots := 0, locals := 48 } : Room) s m args below meth c H locs 0 0 (QV below args s D cI cZ (wX5 a5 cI cZ) A u1) (F0 m 300 ls [])
abbrev KP_X5_exchange_278 (p : Program) (l : Launch) (e : Env) (s : State) (m : MethodId) (args : Array Value) (below : List Frame) (meth : Method) (c : Code) (D : va_G) (cI cZ : ClassId) (a5 : Nat → Nat) (A : Nat → Prop) (u1 : St) (K : St → Int32 → Int32 → Int32 → Int32 → Int32 → Int32 → Option (St)) : Prop := ∀ (σ : St) (x2 x3 x4 x5 x6 x7 : Int32) (H : Heap) (locs : List Loc) (ls : Array Slot), va_P D vwCl (wX5 a5 cI cZ σ) H → va_D A (wX5 a5 cI cZ σ) → va_S A s.heap H locs → lv_has ls 8 [(0, .ref (a5 0)), (2, .int x2), (3, .int x3), (4, .int x4), (5, .int x5), (6, .int x6), (7, .int x7)] → K σ x2 x3 x4 x5 x6 x7 = some u1 → W p l e ({ frames := 2, cells := 0, slots := 0, locals := 48 } : Room) s m args below meth c H locs 0 0 (QV below args s D cI cZ (wX5 a5 cI cZ) A u1) (F0 m 278 ls [])
abbrev KP_X5_exchange_252 (p : Program) (l : Launch) (e : Env) (s : State) (m : MethodId) (args : Array Value) (below : List Frame) (meth : Method) (c : Code) (D : va_G) (cI cZ : ClassId) (a5 : Nat → Nat) (A : Nat → Prop) (u1 : St) (K : St → Int32 → Int32 → Int32 → Int32 → Int32 → Int32 → Option (St)) : Prop := ∀ (σ : St) (x2 x3 x4 x5 x6 s0 : Int32) (H : Heap) (locs : List Loc) (ls : Array Slot), va_P D vwCl (wX5 a5 cI cZ σ) H → va_D A (wX5 a5 cI cZ σ) → va_S A s.heap H locs → lv_has ls 8 [(0, .ref (a5 0)), (2, .int x2), (3, .int x3), (4, .int x4), (5, .int x5), (6, .int x6)] → K σ x2 x3 x4 x5 x6 s0 = some u1 → W p l e ({ frames := 2, cells := 0, slots := 0, locals := 48 } : Room) s m args below meth c H locs 0 0 (QV below args s D cI cZ (wX5 a5 cI cZ) A u1) (F0 m 252 ls [.int s0])
abbrev KP_X5_exchange_196 (p : Program) (l : Launch) (e : Env) (s : State) (m : MethodId) (args : Array Value) (below : List Frame) (meth : Method) (c : Code) (D : va_G) (cI cZ : ClassId) (a5 : Nat → Nat) (A : Nat → Prop) (u1 : St) (K : St → Int32 → Int32 → Int32 → Int32 → Int32 → Int32 → Option (St)) : Prop := ∀ (σ : St) (x2 x3 x4 x5 s1 s2 : Int32) (H : Heap) (locs : List Loc) (ls : Array Slot), va_P D vwCl (wX5 a5 cI cZ σ) H → va_D A (wX5 a5 cI cZ σ) → va_S A s.heap H locs → lv_has ls 8 [(0, .ref (a5 0)), (2, .int x2), (3, .int x3), (4, .int x4), (5, .int x5)] → K σ x2 x3 x4 x5 s1 s2 = some u1 → W p l e ({ frames := 2, cells := 0, slots := 0, locals := 48 } : Room) s m args below meth c H locs 0 0 (QV below args s D cI cZ (wX5 a5 cI cZ) A u1) (F0 m 196 ls [.int s2, .int s1, .ref (a5 17)])
abbrev KP_X5_exchange_151 (p : Program) (l : Launch) (e : Env) (s : State) (m : MethodId) (args : Array Value) (below : List Frame) (meth : Method) (c : Code) (D : va_G) (cI cZ : ClassId) (a5 : Nat → Nat) (A : Nat → Prop) (u1 : St) (K : St → Int32 → Int32 → Int32 → Int32 → Option (St)) : Prop := ∀ (σ : St) (x2 x3 x4 x5 : Int32) (H : Heap) (locs : List Loc) (ls : Array Slot), va_P D vwCl (wX5 a5 cI cZ σ) H → va_D A (wX5 a5 cI cZ σ) → va_S A s.heap H locs → lv_has ls 8 [(0, .ref (a5 0)), (2, .int x2), (3, .int x3), (4, .int x4), (5, .int x5)] → K σ x2 x3 x4 x5 = some u1 → W p l e ({ frames := 2, cells := 0, slots := 0, locals := 48 } : Room) s m args below meth c H locs 0 0 (QV below args s D cI cZ (wX5 a5 cI cZ) A u1) (F0 m 151 ls [])
abbrev KP_X5_exchange_142 (p : Program) (l : Launch) (e : Env) (s : State) (m : MethodId) (args : Array Value) (below : List Frame) (meth : Method) (c : Code) (D : va_G) (cI cZ : ClassId) (a5 : Nat → Nat) (A : Nat → Prop) (u1 : St) (K : St → Int32 → Int32 → Int32 → Int32 → Option (St)) : Prop := ∀ (σ : St) (x2 x3 x4 x5 : Int32) (H : Heap) (locs : List Loc) (ls : Array Slot), va_P D vwCl (wX5 a5 cI cZ σ) H → va_D A (wX5 a5 cI cZ σ) → va_S A s.heap H locs → lv_has ls 8 [(0, .ref (a5 0)), (2, .int x2), (3, .int x3), (4, .int x4), (5, .int x5)] → K σ x2 x3 x4 x5 = some u1 → W p l e ({ frames := 2, cells := 0, slots := 0, locals := 48 } : Room) s m args below meth c H locs 0 0 (QV below args s D cI cZ (wX5 a5 cI cZ) A u1) (F0 m 142 ls [])
abbrev KP_X5_exchange_76 (p : Program) (l : Launch) (e : Env) (s : State) (m : MethodId) (args : Array Value) (below : List Frame) (meth : Method) (c : Code) (D : va_G) (cI cZ : ClassId) (a5 : Nat → Nat) (A : Nat → Prop) (u1 : St) (K : St → Int32 → Int32 → Int32 → Int32 → Option (St)) : Prop := ∀ (σ : St) (x2 x3 x4 x5 : Int32) (H : Heap) (locs : List Loc) (ls : Array Slot), va_P D vwCl (wX5 a5 cI cZ σ) H → va_D A (wX5 a5 cI cZ σ) → va_S A s.heap H locs → lv_has ls 8 [(0, .ref (a5 0)), (2, .int x2), (3, .int x3), (4, .int x4), (5, .int x5)] → K σ x2 x3 x4 x5 = some u1 → W p l e ({ frames := 2, cells := 0, slots := 0, locals := 48 } : Room) s m args below meth c H locs 0 0 (QV below args s D cI cZ (wX5 a5 cI cZ) A u1) (F0 m 76 ls [])
abbrev KP_X5_exchange_38 (p : Program) (l : Launch) (e : Env) (s : State) (m : MethodId) (args : Array Value) (below : List Frame) (meth : Method) (c : Code) (D : va_G) (cI cZ : ClassId) (a5 : Nat → Nat) (A : Nat → Prop) (u1 : St) (K : St → Int32 → Int32 → Int32 → Int32 → Int32 → Option (St)) : Prop := ∀ (σ : St) (x1 x2 x3 x4 x5 : Int32) (H : Heap) (locs : List Loc) (ls : Array Slot), va_P D vwCl (wX5 a5 cI cZ σ) H → va_D A (wX5 a5 cI cZ σ) → va_S A s.heap H locs → lv_has ls 8 [(0, .ref (a5 0)), (1, .int x1), (2, .int x2), (3, .int x3), (4, .int x4), (5, .int x5)] → K σ x1 x2 x3 x4 x5 = some u1 → W p l e ({ frames := 2, cells := 0, slots := 0, locals := 48 } : Room) s m args below meth c H locs 0 0 (QV below args s D cI cZ (wX5 a5 cI cZ) A u1) (F0 m 38 ls [])
abbrev KP_X5_exchange_9 (p : Program) (l : Launch) (e : Env) (s : State) (m : MethodId) (args : Array Value) (below : List Frame) (meth : Method) (c : Code) (D : va_G) (cI cZ : ClassId) (a5 : Nat → Nat) (A : Nat → Prop) (u1 : St) (K : St → Int32 → Int32 → Int32 → Int32 → Int32 → Option (St)) : Prop := ∀ (σ : St) (x1 x2 x3 x4 x5 : Int32) (H : Heap) (locs : List Loc) (ls : Array Slot), va_P D vwCl (wX5 a5 cI cZ σ) H → va_D A (wX5 a5 cI cZ σ) → va_S A s.heap H locs → lv_has ls 8 [(0, .ref (a5 0)), (1, .int x1), (2, .int x2), (3, .int x3), (4, .int x4), (5, .int x5)] → K σ x1 x2 x3 x4 x5 = some u1 → W p l e ({ frames := 2, cells := 0, slots := 0, locals := 48 } : Room) s m args below meth c H locs 0 0 (QV below args s D cI cZ (wX5 a5 cI cZ) A u1) (F0 m 9 ls [])
set_option maxHeartbeats 4000000 in
set_option maxRecDepth 100000 in
theorem k_X5_exchange_300 {p : Program} {l : Launch} {e : Env} {s : State} {m : MethodId} {args : Array Value} {below : List Frame} {meth : Method} {c : Code} {D : va_G} {cI cZ : ClassId} {a5 : Nat → Nat} {A : Nat → Prop} {u1 : St} (C0 : mB p s m args meth c D cI cZ A cX5_exchange 8 none wsX5_exchange RX5) (N : Nat) (k151 : St → Int32 → Int32 → Int32 → Int32 → Option (St)) (hk151 : KP_X5_exchange_151 p l e s m args below meth c D cI cZ a5 A u1 k151) : KP_X5_exchange_300 p l e s m args below meth c D cI cZ a5 A u1 (f_X5_exchange_300 N k151) := by
  obtain ⟨hx, hb, hml, hr, hown, hts, hlocks, hA, hK, hN⟩ := id C0
  intro σ x2 x3 x4 x5 H locs ls hP hD hS hl h
  unfold f_X5_exchange_300 at h
  refine lv_iinc (v := (x5 + 1)) (lv' := [(5, .int (x5 + 1)), (0, .ref (a5 0)), (2, .int x2), (3, .int x3), (4, .int x4)]) hx hb dX5_exchange_300 hl (k := 4) rfl rfl (by decide) rfl (fun ls hl => ?_)
  refine lv_goto (tgt := 151) hx hb dX5_exchange_303 (by decide) ?_
  exact hk151 σ x2 x3 x4 (x5 + 1) _ _ _ hP hD hS (lv_sub hl [1, 2, 3, 4, 0] rfl) h
set_option maxHeartbeats 4000000 in
set_option maxRecDepth 100000 in
theorem k_X5_exchange_278 {p : Program} {l : Launch} {e : Env} {s : State} {m : MethodId} {args : Array Value} {below : List Frame} {meth : Method} {c : Code} {D : va_G} {cI cZ : ClassId} {a5 : Nat → Nat} {A : Nat → Prop} {u1 : St} (C0 : mB p s m args meth c D cI cZ A cX5_exchange 8 none wsX5_exchange RX5) (N : Nat) (k151 : St → Int32 → Int32 → Int32 → Int32 → Option (St)) (hk151 : KP_X5_exchange_151 p l e s m args below meth c D cI cZ a5 A u1 k151) : KP_X5_exchange_278 p l e s m args below meth c D cI cZ a5 A u1 (f_X5_exchange_278 N k151) := by
  obtain ⟨hx, hb, hml, hr, hown, hts, hlocks, hA, hK, hN⟩ := id C0
  intro σ x2 x3 x4 x5 x6 x7 H locs ls hP hD hS hl h
  unfold f_X5_exchange_278 at h
  refine lv_aload_n hx hb dX5_exchange_278 rfl (lv_at hl 0 rfl) ?_
  refine va_get (D := D) (ci := 5) (v := .ref (a5 17)) (C := RX5) (T := TX5) (N := 30) hx hb hts in_X5_exchange_X5 hown hK hP 0 rfl rfl 16 (by decide) (hts (.fieldLink RX5 44 "TermLoomModel" "image" "[I") (by decide +kernel)) (fun _ h9 => h9) rfl dX5_exchange_279 ?_
  refine lv_iload hx hb dX5_exchange_282 (lv_at hl 4 rfl) ?_
  refine lv_aload_n hx hb dX5_exchange_284 rfl (lv_at hl 0 rfl) ?_
  refine lv_aload_n hx hb dX5_exchange_285 rfl (lv_at hl 0 rfl) ?_
  refine va_get (D := D) (ci := 5) (v := .ref (a5 7)) (C := RX5) (T := TX5) (N := 30) hx hb hts in_X5_exchange_X5 hown hK hP 0 rfl rfl 6 (by decide) (hts (.fieldLink RX5 20 "TermLoomModel" "head" "[I") (by decide +kernel)) (fun _ h9 => h9) rfl dX5_exchange_286 ?_
  refine lv_iload hx hb dX5_exchange_289 (lv_at hl 4 rfl) ?_
  by_cases hi : x5 < 0 ∨ 16000 ≤ (x5).toNatClampNeg
  · rw [if_pos hi] at h; exact no h
  rw [if_neg hi] at h
  refine va_iald (f := (σ 6)) hx hb hK hP 3 0 rfl rfl (i := x5) hi dX5_exchange_291 ?_
  refine lv_iload hx hb dX5_exchange_292 (lv_at hl 5 rfl) ?_
  refine lv_iload hx hb dX5_exchange_294 (lv_at hl 6 rfl) ?_
  obtain ⟨q1, hq1, h⟩ := ob h
  refine mc_i (ws' := wX5 a5 cI cZ q1.2) (wr := ([] : va_W)) [0, 1, 2, 3, 4, 5, 6, 7, 8, 9, 10, 11, 12, 13, 14, 15, 16, 17, 18, 19, 20, 21, 22] [] [0, 1, 2, 3, 4, 5, 6, 7, 8, 9, 10, 11, 12, 13, 14, 15, 16, 17, 18, 19, 20, 21, 22] (va_runV (As := [.int (σ 6 (x5).toNatClampNeg), .int x6, .int x7]) (rest := [.int x5, .ref (a5 17)]) ⟨hx, hb, hml, hown, hts⟩ (c_X5_node l D cI cZ a5 N σ (σ 6 (x5).toNatClampNeg) x6 x7 q1.1 q1.2 hq1 H.size) (cwV 3 hts gX5_exchange_X5_node rfl rfl rfl (by decide +kernel) ⟨Nat.le_of_ble_eq_true rfl, Nat.le_of_ble_eq_true rfl⟩) (pV [0, 1, 2, 3, 4, 5, 6, 7, 8, 9, 10, 11, 12, 13, 14, 15, 16, 17, 18, 19, 20, 21, 22] hP hD hK hN rfl rfl rfl rfl) rfl rfl hl.1 rfl (lv_room (Nat.le_of_ble_eq_true rfl)) dX5_exchange_296 ⟨Nat.le_of_ble_eq_true rfl, Nat.le_of_ble_eq_true rfl⟩) hP hD hS hA rfl rfl rfl (by decide) rfl rfl (fun H locs hP hD hS => ?_)
  by_cases hi : x5 < 0 ∨ 16000 ≤ (x5).toNatClampNeg
  · rw [if_pos hi] at h; exact no h
  rw [if_neg hi] at h
  refine va_iast (f := (q1.2 16)) hx hb hK hP hD hS 11 0 rfl rfl (i := x5) (x := q1.1) hi dX5_exchange_299 (fun H locs hP hD hS => ?_)
  obtain ⟨σ2, eσ2, h⟩ := bn h
  have hP : va_P D vwCl (wX5 a5 cI cZ σ2) H := by rw [eσ2]; exact hP
  have hD : va_D A (wX5 a5 cI cZ σ2) := by rw [eσ2]; exact hD
  exact k_X5_exchange_300 C0 N k151 hk151 σ2 x2 x3 x4 x5 _ _ _ hP hD hS (lv_sub hl [0, 1, 2, 3, 4] rfl) h
set_option maxHeartbeats 4000000 in
set_option maxRecDepth 100000 in
theorem k_X5_exchange_252 {p : Program} {l : Launch} {e : Env} {s : State} {m : MethodId} {args : Array Value} {below : List Frame} {meth : Method} {c : Code} {D : va_G} {cI cZ : ClassId} {a5 : Nat → Nat} {A : Nat → Prop} {u1 : St} (C0 : mB p s m args meth c D cI cZ A cX5_exchange 8 none wsX5_exchange RX5) (N : Nat) (k151 : St → Int32 → Int32 → Int32 → Int32 → Option (St)) (hk151 : KP_X5_exchange_151 p l e s m args below meth c D cI cZ a5 A u1 k151) : KP_X5_exchange_252 p l e s m args below meth c D cI cZ a5 A u1 (f_X5_exchange_252 N k151) := by
  obtain ⟨hx, hb, hml, hr, hown, hts, hlocks, hA, hK, hN⟩ := id C0
  intro σ x2 x3 x4 x5 x6 s0 H locs ls hP hD hS hl h
  unfold f_X5_exchange_252 at h
  refine lv_istore (lv' := [(7, .int s0), (0, .ref (a5 0)), (2, .int x2), (3, .int x3), (4, .int x4), (5, .int x5), (6, .int x6)]) hx hb dX5_exchange_252 hl (by decide) rfl (fun ls hl => ?_)
  refine lv_iload hx hb dX5_exchange_254 (lv_at hl 6 rfl) ?_
  refine lv_aload_n hx hb dX5_exchange_256 rfl (lv_at hl 1 rfl) ?_
  refine va_get (D := D) (ci := 5) (v := .ref (a5 8)) (C := RX5) (T := TX5) (N := 30) hx hb hts in_X5_exchange_X5 hown hK hP 0 rfl rfl 7 (by decide) (hts (.fieldLink RX5 23 "TermLoomModel" "left" "[I") (by decide +kernel)) (fun _ h9 => h9) rfl dX5_exchange_257 ?_
  refine lv_iload hx hb dX5_exchange_260 (lv_at hl 5 rfl) ?_
  by_cases hi : x5 < 0 ∨ 16000 ≤ (x5).toNatClampNeg
  · rw [if_pos hi] at h; exact no h
  rw [if_neg hi] at h
  refine va_iald (f := (σ 7)) hx hb hK hP 4 0 rfl rfl (i := x5) hi dX5_exchange_262 ?_
  refine lv_icmp_ne (tgt := 278) hx hb dX5_exchange_263 (by decide) (fun hc1 => ?_) (fun hc1 => ?_)
  · rw [if_neg hc1] at h
    exact k_X5_exchange_278 C0 N k151 hk151 σ x2 x3 x4 x5 x6 s0 _ _ _ hP hD hS (lv_sub hl [1, 2, 3, 4, 5, 6, 0] rfl) h
  · rw [if_pos hc1] at h
    refine lv_iload hx hb dX5_exchange_266 (lv_at hl 0 rfl) ?_
    refine lv_aload_n hx hb dX5_exchange_268 rfl (lv_at hl 1 rfl) ?_
    refine va_get (D := D) (ci := 5) (v := .ref (a5 9)) (C := RX5) (T := TX5) (N := 30) hx hb hts in_X5_exchange_X5 hown hK hP 0 rfl rfl 8 (by decide) (hts (.fieldLink RX5 26 "TermLoomModel" "right" "[I") (by decide +kernel)) (fun _ h9 => h9) rfl dX5_exchange_269 ?_
    refine lv_iload hx hb dX5_exchange_272 (lv_at hl 5 rfl) ?_
    by_cases hi : x5 < 0 ∨ 16000 ≤ (x5).toNatClampNeg
    · rw [if_pos hi] at h; exact no h
    rw [if_neg hi] at h
    refine va_iald (f := (σ 8)) hx hb hK hP 5 0 rfl rfl (i := x5) hi dX5_exchange_274 ?_
    refine lv_icmp_eq (tgt := 300) hx hb dX5_exchange_275 (by decide) (fun hc2 => ?_) (fun hc2 => ?_)
    · rw [if_pos hc2] at h
      exact k_X5_exchange_300 C0 N k151 hk151 σ x2 x3 x4 x5 _ _ _ hP hD hS (lv_sub hl [1, 2, 3, 4, 5] rfl) h
    · rw [if_neg hc2] at h
      exact k_X5_exchange_278 C0 N k151 hk151 σ x2 x3 x4 x5 x6 s0 _ _ _ hP hD hS (lv_sub hl [1, 2, 3, 4, 5, 6, 0] rfl) h
set_option maxHeartbeats 4000000 in
set_option maxRecDepth 100000 in
theorem k_X5_exchange_196 {p : Program} {l : Launch} {e : Env} {s : State} {m : MethodId} {args : Array Value} {below : List Frame} {meth : Method} {c : Code} {D : va_G} {cI cZ : ClassId} {a5 : Nat → Nat} {A : Nat → Prop} {u1 : St} (C0 : mB p s m args meth c D cI cZ A cX5_exchange 8 none wsX5_exchange RX5) (N : Nat) (k151 : St → Int32 → Int32 → Int32 → Int32 → Option (St)) (hk151 : KP_X5_exchange_151 p l e s m args below meth c D cI cZ a5 A u1 k151) : KP_X5_exchange_196 p l e s m args below meth c D cI cZ a5 A u1 (f_X5_exchange_196 N k151) := by
  obtain ⟨hx, hb, hml, hr, hown, hts, hlocks, hA, hK, hN⟩ := id C0
  intro σ x2 x3 x4 x5 s1 s2 H locs ls hP hD hS hl h
  unfold f_X5_exchange_196 at h
  by_cases hi : s1 < 0 ∨ 16000 ≤ (s1).toNatClampNeg
  · rw [if_pos hi] at h; exact no h
  rw [if_neg hi] at h
  refine va_iast (f := (σ 16)) hx hb hK hP hD hS 11 0 rfl rfl (i := s1) (x := s2) hi dX5_exchange_196 (fun H locs hP hD hS => ?_)
  obtain ⟨σ1, eσ1, h⟩ := bn h
  have hP : va_P D vwCl (wX5 a5 cI cZ σ1) H := by rw [eσ1]; exact hP
  have hD : va_D A (wX5 a5 cI cZ σ1) := by rw [eσ1]; exact hD
  refine lv_aload_n hx hb dX5_exchange_197 rfl (lv_at hl 0 rfl) ?_
  refine va_get (D := D) (ci := 5) (v := .ref (a5 8)) (C := RX5) (T := TX5) (N := 30) hx hb hts in_X5_exchange_X5 hown hK hP 0 rfl rfl 7 (by decide) (hts (.fieldLink RX5 23 "TermLoomModel" "left" "[I") (by decide +kernel)) (fun _ h9 => h9) rfl dX5_exchange_198 ?_
  refine lv_iload hx hb dX5_exchange_201 (lv_at hl 4 rfl) ?_
  by_cases hi : x5 < 0 ∨ 16000 ≤ (x5).toNatClampNeg
  · rw [if_pos hi] at h; exact no h
  rw [if_neg hi] at h
  refine va_iald (f := (σ1 7)) hx hb hK hP 4 0 rfl rfl (i := x5) hi dX5_exchange_203 ?_
  refine lv_iconst (v := (-1)) hx hb dX5_exchange_204 rfl ?_
  refine lv_icmp_ne (tgt := 211) hx hb dX5_exchange_205 (by decide) (fun hc2 => ?_) (fun hc2 => ?_)
  · rw [if_neg hc2] at h
    refine lv_aload_n hx hb dX5_exchange_211 rfl (lv_at hl 0 rfl) ?_
    refine va_get (D := D) (ci := 5) (v := .ref (a5 17)) (C := RX5) (T := TX5) (N := 30) hx hb hts in_X5_exchange_X5 hown hK hP 0 rfl rfl 16 (by decide) (hts (.fieldLink RX5 44 "TermLoomModel" "image" "[I") (by decide +kernel)) (fun _ h9 => h9) rfl dX5_exchange_212 ?_
    refine lv_aload_n hx hb dX5_exchange_215 rfl (lv_at hl 0 rfl) ?_
    refine va_get (D := D) (ci := 5) (v := .ref (a5 8)) (C := RX5) (T := TX5) (N := 30) hx hb hts in_X5_exchange_X5 hown hK hP 0 rfl rfl 7 (by decide) (hts (.fieldLink RX5 23 "TermLoomModel" "left" "[I") (by decide +kernel)) (fun _ h9 => h9) rfl dX5_exchange_216 ?_
    refine lv_iload hx hb dX5_exchange_219 (lv_at hl 4 rfl) ?_
    by_cases hi : x5 < 0 ∨ 16000 ≤ (x5).toNatClampNeg
    · rw [if_pos hi] at h; exact no h
    rw [if_neg hi] at h
    refine va_iald (f := (σ1 7)) hx hb hK hP 4 0 rfl rfl (i := x5) hi dX5_exchange_221 ?_
    by_cases hi : (σ1 7 (x5).toNatClampNeg) < 0 ∨ 16000 ≤ ((σ1 7 (x5).toNatClampNeg)).toNatClampNeg
    · rw [if_pos hi] at h; exact no h
    rw [if_neg hi] at h
    refine va_iald (f := (σ1 16)) hx hb hK hP 11 0 rfl rfl (i := (σ1 7 (x5).toNatClampNeg)) hi dX5_exchange_222 ?_
    refine lv_istore (lv' := [(6, .int (σ1 16 ((σ1 7 (x5).toNatClampNeg)).toNatClampNeg)), (0, .ref (a5 0)), (2, .int x2), (3, .int x3), (4, .int x4), (5, .int x5)]) hx hb dX5_exchange_223 hl (by decide) rfl (fun ls hl => ?_)
    refine lv_aload_n hx hb dX5_exchange_225 rfl (lv_at hl 1 rfl) ?_
    refine va_get (D := D) (ci := 5) (v := .ref (a5 9)) (C := RX5) (T := TX5) (N := 30) hx hb hts in_X5_exchange_X5 hown hK hP 0 rfl rfl 8 (by decide) (hts (.fieldLink RX5 26 "TermLoomModel" "right" "[I") (by decide +kernel)) (fun _ h9 => h9) rfl dX5_exchange_226 ?_
    refine lv_iload hx hb dX5_exchange_229 (lv_at hl 5 rfl) ?_
    by_cases hi : x5 < 0 ∨ 16000 ≤ (x5).toNatClampNeg
    · rw [if_pos hi] at h; exact no h
    rw [if_neg hi] at h
    refine va_iald (f := (σ1 8)) hx hb hK hP 5 0 rfl rfl (i := x5) hi dX5_exchange_231 ?_
    refine lv_iconst (v := (-1)) hx hb dX5_exchange_232 rfl ?_
    refine lv_icmp_ne (tgt := 240) hx hb dX5_exchange_233 (by decide) (fun hc3 => ?_) (fun hc3 => ?_)
    · rw [if_neg hc3] at h
      refine lv_aload_n hx hb dX5_exchange_240 rfl (lv_at hl 1 rfl) ?_
      refine va_get (D := D) (ci := 5) (v := .ref (a5 17)) (C := RX5) (T := TX5) (N := 30) hx hb hts in_X5_exchange_X5 hown hK hP 0 rfl rfl 16 (by decide) (hts (.fieldLink RX5 44 "TermLoomModel" "image" "[I") (by decide +kernel)) (fun _ h9 => h9) rfl dX5_exchange_241 ?_
      refine lv_aload_n hx hb dX5_exchange_244 rfl (lv_at hl 1 rfl) ?_
      refine va_get (D := D) (ci := 5) (v := .ref (a5 9)) (C := RX5) (T := TX5) (N := 30) hx hb hts in_X5_exchange_X5 hown hK hP 0 rfl rfl 8 (by decide) (hts (.fieldLink RX5 26 "TermLoomModel" "right" "[I") (by decide +kernel)) (fun _ h9 => h9) rfl dX5_exchange_245 ?_
      refine lv_iload hx hb dX5_exchange_248 (lv_at hl 5 rfl) ?_
      by_cases hi : x5 < 0 ∨ 16000 ≤ (x5).toNatClampNeg
      · rw [if_pos hi] at h; exact no h
      rw [if_neg hi] at h
      refine va_iald (f := (σ1 8)) hx hb hK hP 5 0 rfl rfl (i := x5) hi dX5_exchange_250 ?_
      by_cases hi : (σ1 8 (x5).toNatClampNeg) < 0 ∨ 16000 ≤ ((σ1 8 (x5).toNatClampNeg)).toNatClampNeg
      · rw [if_pos hi] at h; exact no h
      rw [if_neg hi] at h
      refine va_iald (f := (σ1 16)) hx hb hK hP 11 0 rfl rfl (i := (σ1 8 (x5).toNatClampNeg)) hi dX5_exchange_251 ?_
      exact k_X5_exchange_252 C0 N k151 hk151 σ1 x2 x3 x4 x5 (σ1 16 ((σ1 7 (x5).toNatClampNeg)).toNatClampNeg) (σ1 16 ((σ1 8 (x5).toNatClampNeg)).toNatClampNeg) _ _ _ hP hD hS (lv_sub hl [1, 2, 3, 4, 5, 0] rfl) h
    · rw [if_pos hc3] at h
      refine lv_iconst (v := (-1)) hx hb dX5_exchange_236 rfl ?_
      refine lv_goto (tgt := 252) hx hb dX5_exchange_237 (by decide) ?_
      exact k_X5_exchange_252 C0 N k151 hk151 σ1 x2 x3 x4 x5 (σ1 16 ((σ1 7 (x5).toNatClampNeg)).toNatClampNeg) (-1) _ _ _ hP hD hS (lv_sub hl [1, 2, 3, 4, 5, 0] rfl) h
  · rw [if_pos hc2] at h
    refine lv_goto (tgt := 300) hx hb dX5_exchange_208 (by decide) ?_
    exact k_X5_exchange_300 C0 N k151 hk151 σ1 x2 x3 x4 x5 _ _ _ hP hD hS (lv_sub hl [0, 1, 2, 3, 4] rfl) h
set_option maxHeartbeats 4000000 in
set_option maxRecDepth 100000 in
theorem k_X5_exchange_151 {p : Program} {l : Launch} {e : Env} {s : State} {m : MethodId} {args : Array Value} {below : List Frame} {meth : Method} {c : Code} {D : va_G} {cI cZ : ClassId} {a5 : Nat → Nat} {A : Nat → Prop} {u1 : St} (C0 : mB p s m args meth c D cI cZ A cX5_exchange 8 none wsX5_exchange RX5) (N : Nat) : ∀ n : Nat, KP_X5_exchange_151 p l e s m args below meth c D cI cZ a5 A u1 (f_X5_exchange_151 N n) := by
  obtain ⟨hx, hb, hml, hr, hown, hts, hlocks, hA, hK, hN⟩ := id C0
  intro n
  induction n with
  | zero =>
    intro σ x2 x3 x4 x5 H locs ls hP hD hS hl h
    exact no (show (none : Option (St)) = _ from h)
  | succ n ih =>
    intro σ x2 x3 x4 x5 H locs ls hP hD hS hl h
    rw [f_X5_exchange_151] at h
    refine lv_iload hx hb dX5_exchange_151 (lv_at hl 4 rfl) ?_
    refine lv_iload hx hb dX5_exchange_153 (lv_at hl 3 rfl) ?_
    refine lv_icmp_ge (tgt := 306) hx hb dX5_exchange_155 (by decide) (fun hc1 => ?_) (fun hc1 => ?_)
    · rw [if_pos hc1] at h
      obtain rfl := so1 h
      exact ret_v C0 hP hD hS dX5_exchange_306
    · rw [if_neg hc1] at h
      refine lv_aload_n hx hb dX5_exchange_158 rfl (lv_at hl 0 rfl) ?_
      refine va_get (D := D) (ci := 5) (v := .ref (a5 18)) (C := RX5) (T := TX5) (N := 30) hx hb hts in_X5_exchange_X5 hown hK hP 0 rfl rfl 17 (by decide) (hts (.fieldLink RX5 47 "TermLoomModel" "used" "[Z") (by decide +kernel)) (fun _ h9 => h9) rfl dX5_exchange_159 ?_
      refine lv_iload hx hb dX5_exchange_162 (lv_at hl 4 rfl) ?_
      by_cases hi : x5 < 0 ∨ 16000 ≤ (x5).toNatClampNeg
      · rw [if_pos hi] at h; exact no h
      rw [if_neg hi] at h
      refine va_zald (f := (σ 17)) hx hb hK hP 12 1 rfl rfl (i := x5) hi dX5_exchange_164 ?_
      refine lv_if_ne (tgt := 171) hx hb dX5_exchange_165 (by decide) (fun hc2 => ?_) (fun hc2 => ?_)
      · rw [if_neg hc2] at h
        refine lv_aload_n hx hb dX5_exchange_171 rfl (lv_at hl 0 rfl) ?_
        refine va_get (D := D) (ci := 5) (v := .ref (a5 17)) (C := RX5) (T := TX5) (N := 30) hx hb hts in_X5_exchange_X5 hown hK hP 0 rfl rfl 16 (by decide) (hts (.fieldLink RX5 44 "TermLoomModel" "image" "[I") (by decide +kernel)) (fun _ h9 => h9) rfl dX5_exchange_172 ?_
        refine lv_iload hx hb dX5_exchange_175 (lv_at hl 4 rfl) ?_
        refine lv_aload_n hx hb dX5_exchange_177 rfl (lv_at hl 0 rfl) ?_
        refine va_get (D := D) (ci := 5) (v := .ref (a5 7)) (C := RX5) (T := TX5) (N := 30) hx hb hts in_X5_exchange_X5 hown hK hP 0 rfl rfl 6 (by decide) (hts (.fieldLink RX5 20 "TermLoomModel" "head" "[I") (by decide +kernel)) (fun _ h9 => h9) rfl dX5_exchange_178 ?_
        refine lv_iload hx hb dX5_exchange_181 (lv_at hl 4 rfl) ?_
        by_cases hi : x5 < 0 ∨ 16000 ≤ (x5).toNatClampNeg
        · rw [if_pos hi] at h; exact no h
        rw [if_neg hi] at h
        refine va_iald (f := (σ 6)) hx hb hK hP 3 0 rfl rfl (i := x5) hi dX5_exchange_183 ?_
        refine lv_iconst (v := (-1)) hx hb dX5_exchange_184 rfl ?_
        refine lv_iload_n hx hb dX5_exchange_185 rfl (lv_at hl 1 rfl) ?_
        refine lv_isub hx hb dX5_exchange_186 ?_
        refine lv_icmp_ne (tgt := 194) hx hb dX5_exchange_187 (by decide) (fun hc3 => ?_) (fun hc3 => ?_)
        · rw [if_neg hc3] at h
          refine lv_iload hx hb dX5_exchange_194 (lv_at hl 4 rfl) ?_
          exact k_X5_exchange_196 C0 N (f_X5_exchange_151 N n) ih σ x2 x3 x4 x5 x5 x5 _ _ _ hP hD hS (lv_sub hl [0, 1, 2, 3, 4] rfl) h
        · rw [if_pos hc3] at h
          refine lv_iload_n hx hb dX5_exchange_190 rfl (lv_at hl 2 rfl) ?_
          refine lv_goto (tgt := 196) hx hb dX5_exchange_191 (by decide) ?_
          exact k_X5_exchange_196 C0 N (f_X5_exchange_151 N n) ih σ x2 x3 x4 x5 x5 x3 _ _ _ hP hD hS (lv_sub hl [0, 1, 2, 3, 4] rfl) h
      · rw [if_pos hc2] at h
        refine lv_goto (tgt := 300) hx hb dX5_exchange_168 (by decide) ?_
        exact k_X5_exchange_300 C0 N (f_X5_exchange_151 N n) ih σ x2 x3 x4 x5 _ _ _ hP hD hS (lv_sub hl [0, 1, 2, 3, 4] rfl) h
set_option maxHeartbeats 4000000 in
set_option maxRecDepth 100000 in
theorem k_X5_exchange_142 {p : Program} {l : Launch} {e : Env} {s : State} {m : MethodId} {args : Array Value} {below : List Frame} {meth : Method} {c : Code} {D : va_G} {cI cZ : ClassId} {a5 : Nat → Nat} {A : Nat → Prop} {u1 : St} (C0 : mB p s m args meth c D cI cZ A cX5_exchange 8 none wsX5_exchange RX5) (N : Nat) (k76 : St → Int32 → Int32 → Int32 → Int32 → Option (St)) (hk76 : KP_X5_exchange_76 p l e s m args below meth c D cI cZ a5 A u1 k76) : KP_X5_exchange_142 p l e s m args below meth c D cI cZ a5 A u1 (f_X5_exchange_142 N k76) := by
  obtain ⟨hx, hb, hml, hr, hown, hts, hlocks, hA, hK, hN⟩ := id C0
  intro σ x2 x3 x4 x5 H locs ls hP hD hS hl h
  unfold f_X5_exchange_142 at h
  refine lv_iinc (v := (x5 + (-1))) (lv' := [(5, .int (x5 + (-1))), (0, .ref (a5 0)), (2, .int x2), (3, .int x3), (4, .int x4)]) hx hb dX5_exchange_142 hl (k := 4) rfl rfl (by decide) rfl (fun ls hl => ?_)
  refine lv_goto (tgt := 76) hx hb dX5_exchange_145 (by decide) ?_
  exact hk76 σ x2 x3 x4 (x5 + (-1)) _ _ _ hP hD hS (lv_sub hl [1, 2, 3, 4, 0] rfl) h
set_option maxHeartbeats 4000000 in
set_option maxRecDepth 100000 in
theorem k_X5_exchange_76 {p : Program} {l : Launch} {e : Env} {s : State} {m : MethodId} {args : Array Value} {below : List Frame} {meth : Method} {c : Code} {D : va_G} {cI cZ : ClassId} {a5 : Nat → Nat} {A : Nat → Prop} {u1 : St} (C0 : mB p s m args meth c D cI cZ A cX5_exchange 8 none wsX5_exchange RX5) (N : Nat) : ∀ n : Nat, KP_X5_exchange_76 p l e s m args below meth c D cI cZ a5 A u1 (f_X5_exchange_76 N n) := by
  obtain ⟨hx, hb, hml, hr, hown, hts, hlocks, hA, hK, hN⟩ := id C0
  intro n
  induction n with
  | zero =>
    intro σ x2 x3 x4 x5 H locs ls hP hD hS hl h
    exact no (show (none : Option (St)) = _ from h)
  | succ n ih =>
    intro σ x2 x3 x4 x5 H locs ls hP hD hS hl h
    rw [f_X5_exchange_76] at h
    refine lv_iload hx hb dX5_exchange_76 (lv_at hl 4 rfl) ?_
    refine lv_if_lt (tgt := 148) hx hb dX5_exchange_78 (by decide) (fun hc1 => ?_) (fun hc1 => ?_)
    · rw [if_pos hc1] at h
      refine lv_iconst (v := 0) hx hb dX5_exchange_148 rfl ?_
      refine lv_istore (lv' := [(5, .int 0), (0, .ref (a5 0)), (2, .int x2), (3, .int x3), (4, .int x4)]) hx hb dX5_exchange_149 hl (by decide) rfl (fun ls hl => ?_)
      exact k_X5_exchange_151 C0 N N σ x2 x3 x4 0 _ _ _ hP hD hS (lv_sub hl [1, 2, 3, 4, 0] rfl) h
    · rw [if_neg hc1] at h
      refine lv_aload_n hx hb dX5_exchange_81 rfl (lv_at hl 0 rfl) ?_
      refine va_get (D := D) (ci := 5) (v := .ref (a5 18)) (C := RX5) (T := TX5) (N := 30) hx hb hts in_X5_exchange_X5 hown hK hP 0 rfl rfl 17 (by decide) (hts (.fieldLink RX5 47 "TermLoomModel" "used" "[Z") (by decide +kernel)) (fun _ h9 => h9) rfl dX5_exchange_82 ?_
      refine lv_iload hx hb dX5_exchange_85 (lv_at hl 4 rfl) ?_
      by_cases hi : x5 < 0 ∨ 16000 ≤ (x5).toNatClampNeg
      · rw [if_pos hi] at h; exact no h
      rw [if_neg hi] at h
      refine va_zald (f := (σ 17)) hx hb hK hP 12 1 rfl rfl (i := x5) hi dX5_exchange_87 ?_
      refine lv_if_eq (tgt := 142) hx hb dX5_exchange_88 (by decide) (fun hc2 => ?_) (fun hc2 => ?_)
      · rw [if_pos hc2] at h
        exact k_X5_exchange_142 C0 N (f_X5_exchange_76 N n) ih σ x2 x3 x4 x5 _ _ _ hP hD hS (lv_sub hl [0, 1, 2, 3, 4] rfl) h
      · rw [if_neg hc2] at h
        refine lv_aload_n hx hb dX5_exchange_91 rfl (lv_at hl 0 rfl) ?_
        refine va_get (D := D) (ci := 5) (v := .ref (a5 8)) (C := RX5) (T := TX5) (N := 30) hx hb hts in_X5_exchange_X5 hown hK hP 0 rfl rfl 7 (by decide) (hts (.fieldLink RX5 23 "TermLoomModel" "left" "[I") (by decide +kernel)) (fun _ h9 => h9) rfl dX5_exchange_92 ?_
        refine lv_iload hx hb dX5_exchange_95 (lv_at hl 4 rfl) ?_
        by_cases hi : x5 < 0 ∨ 16000 ≤ (x5).toNatClampNeg
        · rw [if_pos hi] at h; exact no h
        rw [if_neg hi] at h
        refine va_iald (f := (σ 7)) hx hb hK hP 4 0 rfl rfl (i := x5) hi dX5_exchange_97 ?_
        refine lv_iconst (v := (-1)) hx hb dX5_exchange_98 rfl ?_
        refine lv_icmp_ne (tgt := 105) hx hb dX5_exchange_99 (by decide) (fun hc3 => ?_) (fun hc3 => ?_)
        · rw [if_neg hc3] at h
          refine lv_aload_n hx hb dX5_exchange_105 rfl (lv_at hl 0 rfl) ?_
          refine va_get (D := D) (ci := 5) (v := .ref (a5 18)) (C := RX5) (T := TX5) (N := 30) hx hb hts in_X5_exchange_X5 hown hK hP 0 rfl rfl 17 (by decide) (hts (.fieldLink RX5 47 "TermLoomModel" "used" "[Z") (by decide +kernel)) (fun _ h9 => h9) rfl dX5_exchange_106 ?_
          refine lv_aload_n hx hb dX5_exchange_109 rfl (lv_at hl 0 rfl) ?_
          refine va_get (D := D) (ci := 5) (v := .ref (a5 8)) (C := RX5) (T := TX5) (N := 30) hx hb hts in_X5_exchange_X5 hown hK hP 0 rfl rfl 7 (by decide) (hts (.fieldLink RX5 23 "TermLoomModel" "left" "[I") (by decide +kernel)) (fun _ h9 => h9) rfl dX5_exchange_110 ?_
          refine lv_iload hx hb dX5_exchange_113 (lv_at hl 4 rfl) ?_
          by_cases hi : x5 < 0 ∨ 16000 ≤ (x5).toNatClampNeg
          · rw [if_pos hi] at h; exact no h
          rw [if_neg hi] at h
          refine va_iald (f := (σ 7)) hx hb hK hP 4 0 rfl rfl (i := x5) hi dX5_exchange_115 ?_
          refine lv_iconst (v := 1) hx hb dX5_exchange_116 rfl ?_
          by_cases hi : (σ 7 (x5).toNatClampNeg) < 0 ∨ 16000 ≤ ((σ 7 (x5).toNatClampNeg)).toNatClampNeg
          · rw [if_pos hi] at h; exact no h
          rw [if_neg hi] at h
          refine va_zast (f := (σ 17)) hx hb hK hP hD hS 12 1 rfl rfl (i := (σ 7 (x5).toNatClampNeg)) (x := 1) hi dX5_exchange_117 (fun H locs hP hD hS => ?_)
          rw [show vp_nar .boolean (1 : Int32) = 1 from by decide] at hP hD
          obtain ⟨σ4, eσ4, h⟩ := bn h
          have hP : va_P D vwCl (wX5 a5 cI cZ σ4) H := by rw [eσ4]; exact hP
          have hD : va_D A (wX5 a5 cI cZ σ4) := by rw [eσ4]; exact hD
          refine lv_aload_n hx hb dX5_exchange_118 rfl (lv_at hl 0 rfl) ?_
          refine va_get (D := D) (ci := 5) (v := .ref (a5 9)) (C := RX5) (T := TX5) (N := 30) hx hb hts in_X5_exchange_X5 hown hK hP 0 rfl rfl 8 (by decide) (hts (.fieldLink RX5 26 "TermLoomModel" "right" "[I") (by decide +kernel)) (fun _ h9 => h9) rfl dX5_exchange_119 ?_
          refine lv_iload hx hb dX5_exchange_122 (lv_at hl 4 rfl) ?_
          by_cases hi : x5 < 0 ∨ 16000 ≤ (x5).toNatClampNeg
          · rw [if_pos hi] at h; exact no h
          rw [if_neg hi] at h
          refine va_iald (f := (σ4 8)) hx hb hK hP 5 0 rfl rfl (i := x5) hi dX5_exchange_124 ?_
          refine lv_iconst (v := (-1)) hx hb dX5_exchange_125 rfl ?_
          refine lv_icmp_eq (tgt := 142) hx hb dX5_exchange_126 (by decide) (fun hc5 => ?_) (fun hc5 => ?_)
          · rw [if_pos hc5] at h
            exact k_X5_exchange_142 C0 N (f_X5_exchange_76 N n) ih σ4 x2 x3 x4 x5 _ _ _ hP hD hS (lv_sub hl [0, 1, 2, 3, 4] rfl) h
          · rw [if_neg hc5] at h
            refine lv_aload_n hx hb dX5_exchange_129 rfl (lv_at hl 0 rfl) ?_
            refine va_get (D := D) (ci := 5) (v := .ref (a5 18)) (C := RX5) (T := TX5) (N := 30) hx hb hts in_X5_exchange_X5 hown hK hP 0 rfl rfl 17 (by decide) (hts (.fieldLink RX5 47 "TermLoomModel" "used" "[Z") (by decide +kernel)) (fun _ h9 => h9) rfl dX5_exchange_130 ?_
            refine lv_aload_n hx hb dX5_exchange_133 rfl (lv_at hl 0 rfl) ?_
            refine va_get (D := D) (ci := 5) (v := .ref (a5 9)) (C := RX5) (T := TX5) (N := 30) hx hb hts in_X5_exchange_X5 hown hK hP 0 rfl rfl 8 (by decide) (hts (.fieldLink RX5 26 "TermLoomModel" "right" "[I") (by decide +kernel)) (fun _ h9 => h9) rfl dX5_exchange_134 ?_
            refine lv_iload hx hb dX5_exchange_137 (lv_at hl 4 rfl) ?_
            by_cases hi : x5 < 0 ∨ 16000 ≤ (x5).toNatClampNeg
            · rw [if_pos hi] at h; exact no h
            rw [if_neg hi] at h
            refine va_iald (f := (σ4 8)) hx hb hK hP 5 0 rfl rfl (i := x5) hi dX5_exchange_139 ?_
            refine lv_iconst (v := 1) hx hb dX5_exchange_140 rfl ?_
            by_cases hi : (σ4 8 (x5).toNatClampNeg) < 0 ∨ 16000 ≤ ((σ4 8 (x5).toNatClampNeg)).toNatClampNeg
            · rw [if_pos hi] at h; exact no h
            rw [if_neg hi] at h
            refine va_zast (f := (σ4 17)) hx hb hK hP hD hS 12 1 rfl rfl (i := (σ4 8 (x5).toNatClampNeg)) (x := 1) hi dX5_exchange_141 (fun H locs hP hD hS => ?_)
            rw [show vp_nar .boolean (1 : Int32) = 1 from by decide] at hP hD
            obtain ⟨σ6, eσ6, h⟩ := bn h
            have hP : va_P D vwCl (wX5 a5 cI cZ σ6) H := by rw [eσ6]; exact hP
            have hD : va_D A (wX5 a5 cI cZ σ6) := by rw [eσ6]; exact hD
            exact k_X5_exchange_142 C0 N (f_X5_exchange_76 N n) ih σ6 x2 x3 x4 x5 _ _ _ hP hD hS (lv_sub hl [0, 1, 2, 3, 4] rfl) h
        · rw [if_pos hc3] at h
          refine lv_goto (tgt := 142) hx hb dX5_exchange_102 (by decide) ?_
          exact k_X5_exchange_142 C0 N (f_X5_exchange_76 N n) ih σ x2 x3 x4 x5 _ _ _ hP hD hS (lv_sub hl [0, 1, 2, 3, 4] rfl) h
set_option maxHeartbeats 4000000 in
set_option maxRecDepth 100000 in
theorem k_X5_exchange_38 {p : Program} {l : Launch} {e : Env} {s : State} {m : MethodId} {args : Array Value} {below : List Frame} {meth : Method} {c : Code} {D : va_G} {cI cZ : ClassId} {a5 : Nat → Nat} {A : Nat → Prop} {u1 : St} (C0 : mB p s m args meth c D cI cZ A cX5_exchange 8 none wsX5_exchange RX5) (N : Nat) : ∀ n : Nat, KP_X5_exchange_38 p l e s m args below meth c D cI cZ a5 A u1 (f_X5_exchange_38 N n) := by
  obtain ⟨hx, hb, hml, hr, hown, hts, hlocks, hA, hK, hN⟩ := id C0
  intro n
  induction n with
  | zero =>
    intro σ x1 x2 x3 x4 x5 H locs ls hP hD hS hl h
    exact no (show (none : Option (St)) = _ from h)
  | succ n ih =>
    intro σ x1 x2 x3 x4 x5 H locs ls hP hD hS hl h
    rw [f_X5_exchange_38] at h
    refine lv_iload hx hb dX5_exchange_38 (lv_at hl 5 rfl) ?_
    refine lv_aload_n hx hb dX5_exchange_40 rfl (lv_at hl 0 rfl) ?_
    refine va_get (D := D) (ci := 5) (v := .ref (a5 20)) (C := RX5) (T := TX5) (N := 30) hx hb hts in_X5_exchange_X5 hown hK hP 0 rfl rfl 19 (by decide) (hts (.fieldLink RX5 51 "TermLoomModel" "begin" "[I") (by decide +kernel)) (fun _ h9 => h9) rfl dX5_exchange_41 ?_
    refine lv_iload_n hx hb dX5_exchange_44 rfl (lv_at hl 1 rfl) ?_
    refine lv_iconst (v := 1) hx hb dX5_exchange_45 rfl ?_
    refine lv_iadd hx hb dX5_exchange_46 ?_
    by_cases hi : (x1 + 1) < 0 ∨ 4201 ≤ ((x1 + 1)).toNatClampNeg
    · rw [if_pos hi] at h; exact no h
    rw [if_neg hi] at h
    refine va_iald (f := (σ 19)) hx hb hK hP 13 0 rfl rfl (i := (x1 + 1)) hi dX5_exchange_47 ?_
    refine lv_icmp_ge (tgt := 70) hx hb dX5_exchange_48 (by decide) (fun hc1 => ?_) (fun hc1 => ?_)
    · rw [if_pos hc1] at h
      refine lv_iload hx hb dX5_exchange_70 (lv_at hl 4 rfl) ?_
      refine lv_iconst (v := 1) hx hb dX5_exchange_72 rfl ?_
      refine lv_isub hx hb dX5_exchange_73 ?_
      refine lv_istore (lv' := [(5, .int (x4 - 1)), (0, .ref (a5 0)), (1, .int x1), (2, .int x2), (3, .int x3), (4, .int x4)]) hx hb dX5_exchange_74 hl (by decide) rfl (fun ls hl => ?_)
      exact k_X5_exchange_76 C0 N N σ x2 x3 x4 (x4 - 1) _ _ _ hP hD hS (lv_sub hl [1, 3, 4, 5, 0] rfl) h
    · rw [if_neg hc1] at h
      refine lv_aload_n hx hb dX5_exchange_51 rfl (lv_at hl 0 rfl) ?_
      refine va_get (D := D) (ci := 5) (v := .ref (a5 18)) (C := RX5) (T := TX5) (N := 30) hx hb hts in_X5_exchange_X5 hown hK hP 0 rfl rfl 17 (by decide) (hts (.fieldLink RX5 47 "TermLoomModel" "used" "[Z") (by decide +kernel)) (fun _ h9 => h9) rfl dX5_exchange_52 ?_
      refine lv_aload_n hx hb dX5_exchange_55 rfl (lv_at hl 0 rfl) ?_
      refine va_get (D := D) (ci := 5) (v := .ref (a5 22)) (C := RX5) (T := TX5) (N := 30) hx hb hts in_X5_exchange_X5 hown hK hP 0 rfl rfl 21 (by decide) (hts (.fieldLink RX5 58 "TermLoomModel" "type" "[I") (by decide +kernel)) (fun _ h9 => h9) rfl dX5_exchange_56 ?_
      refine lv_iload hx hb dX5_exchange_59 (lv_at hl 5 rfl) ?_
      by_cases hi : x5 < 0 ∨ 34100 ≤ (x5).toNatClampNeg
      · rw [if_pos hi] at h; exact no h
      rw [if_neg hi] at h
      refine va_iald (f := (σ 21)) hx hb hK hP 15 0 rfl rfl (i := x5) hi dX5_exchange_61 ?_
      refine lv_iconst (v := 1) hx hb dX5_exchange_62 rfl ?_
      by_cases hi : (σ 21 (x5).toNatClampNeg) < 0 ∨ 16000 ≤ ((σ 21 (x5).toNatClampNeg)).toNatClampNeg
      · rw [if_pos hi] at h; exact no h
      rw [if_neg hi] at h
      refine va_zast (f := (σ 17)) hx hb hK hP hD hS 12 1 rfl rfl (i := (σ 21 (x5).toNatClampNeg)) (x := 1) hi dX5_exchange_63 (fun H locs hP hD hS => ?_)
      rw [show vp_nar .boolean (1 : Int32) = 1 from by decide] at hP hD
      obtain ⟨σ2, eσ2, h⟩ := bn h
      have hP : va_P D vwCl (wX5 a5 cI cZ σ2) H := by rw [eσ2]; exact hP
      have hD : va_D A (wX5 a5 cI cZ σ2) := by rw [eσ2]; exact hD
      refine lv_iinc (v := (x5 + 1)) (lv' := [(5, .int (x5 + 1)), (0, .ref (a5 0)), (1, .int x1), (2, .int x2), (3, .int x3), (4, .int x4)]) hx hb dX5_exchange_64 hl (k := 5) rfl rfl (by decide) rfl (fun ls hl => ?_)
      refine lv_goto (tgt := 38) hx hb dX5_exchange_67 (by decide) ?_
      exact ih σ2 x1 x2 x3 x4 (x5 + 1) _ _ _ hP hD hS (lv_sub hl [1, 2, 3, 4, 5, 0] rfl) h
set_option maxHeartbeats 4000000 in
set_option maxRecDepth 100000 in
theorem k_X5_exchange_9 {p : Program} {l : Launch} {e : Env} {s : State} {m : MethodId} {args : Array Value} {below : List Frame} {meth : Method} {c : Code} {D : va_G} {cI cZ : ClassId} {a5 : Nat → Nat} {A : Nat → Prop} {u1 : St} (C0 : mB p s m args meth c D cI cZ A cX5_exchange 8 none wsX5_exchange RX5) (N : Nat) : ∀ n : Nat, KP_X5_exchange_9 p l e s m args below meth c D cI cZ a5 A u1 (f_X5_exchange_9 N n) := by
  obtain ⟨hx, hb, hml, hr, hown, hts, hlocks, hA, hK, hN⟩ := id C0
  intro n
  induction n with
  | zero =>
    intro σ x1 x2 x3 x4 x5 H locs ls hP hD hS hl h
    exact no (show (none : Option (St)) = _ from h)
  | succ n ih =>
    intro σ x1 x2 x3 x4 x5 H locs ls hP hD hS hl h
    rw [f_X5_exchange_9] at h
    refine lv_iload hx hb dX5_exchange_9 (lv_at hl 5 rfl) ?_
    refine lv_iload hx hb dX5_exchange_11 (lv_at hl 4 rfl) ?_
    refine lv_icmp_ge (tgt := 30) hx hb dX5_exchange_13 (by decide) (fun hc1 => ?_) (fun hc1 => ?_)
    · rw [if_pos hc1] at h
      refine lv_aload_n hx hb dX5_exchange_30 rfl (lv_at hl 0 rfl) ?_
      refine va_get (D := D) (ci := 5) (v := .ref (a5 20)) (C := RX5) (T := TX5) (N := 30) hx hb hts in_X5_exchange_X5 hown hK hP 0 rfl rfl 19 (by decide) (hts (.fieldLink RX5 51 "TermLoomModel" "begin" "[I") (by decide +kernel)) (fun _ h9 => h9) rfl dX5_exchange_31 ?_
      refine lv_iload_n hx hb dX5_exchange_34 rfl (lv_at hl 1 rfl) ?_
      by_cases hi : x1 < 0 ∨ 4201 ≤ (x1).toNatClampNeg
      · rw [if_pos hi] at h; exact no h
      rw [if_neg hi] at h
      refine va_iald (f := (σ 19)) hx hb hK hP 13 0 rfl rfl (i := x1) hi dX5_exchange_35 ?_
      refine lv_istore (lv' := [(5, .int (σ 19 (x1).toNatClampNeg)), (0, .ref (a5 0)), (1, .int x1), (2, .int x2), (3, .int x3), (4, .int x4)]) hx hb dX5_exchange_36 hl (by decide) rfl (fun ls hl => ?_)
      exact k_X5_exchange_38 C0 N N σ x1 x2 x3 x4 (σ 19 (x1).toNatClampNeg) _ _ _ hP hD hS (lv_sub hl [1, 2, 3, 4, 5, 0] rfl) h
    · rw [if_neg hc1] at h
      refine lv_aload_n hx hb dX5_exchange_16 rfl (lv_at hl 0 rfl) ?_
      refine va_get (D := D) (ci := 5) (v := .ref (a5 18)) (C := RX5) (T := TX5) (N := 30) hx hb hts in_X5_exchange_X5 hown hK hP 0 rfl rfl 17 (by decide) (hts (.fieldLink RX5 47 "TermLoomModel" "used" "[Z") (by decide +kernel)) (fun _ h9 => h9) rfl dX5_exchange_17 ?_
      refine lv_iload hx hb dX5_exchange_20 (lv_at hl 5 rfl) ?_
      refine lv_iconst (v := 0) hx hb dX5_exchange_22 rfl ?_
      by_cases hi : x5 < 0 ∨ 16000 ≤ (x5).toNatClampNeg
      · rw [if_pos hi] at h; exact no h
      rw [if_neg hi] at h
      refine va_zast (f := (σ 17)) hx hb hK hP hD hS 12 1 rfl rfl (i := x5) (x := 0) hi dX5_exchange_23 (fun H locs hP hD hS => ?_)
      rw [show vp_nar .boolean (0 : Int32) = 0 from by decide] at hP hD
      obtain ⟨σ2, eσ2, h⟩ := bn h
      have hP : va_P D vwCl (wX5 a5 cI cZ σ2) H := by rw [eσ2]; exact hP
      have hD : va_D A (wX5 a5 cI cZ σ2) := by rw [eσ2]; exact hD
      refine lv_iinc (v := (x5 + 1)) (lv' := [(5, .int (x5 + 1)), (0, .ref (a5 0)), (1, .int x1), (2, .int x2), (3, .int x3), (4, .int x4)]) hx hb dX5_exchange_24 hl (k := 5) rfl rfl (by decide) rfl (fun ls hl => ?_)
      refine lv_goto (tgt := 9) hx hb dX5_exchange_27 (by decide) ?_
      exact ih σ2 x1 x2 x3 x4 (x5 + 1) _ _ _ hP hD hS (lv_sub hl [1, 2, 3, 4, 5, 0] rfl) h
set_option maxHeartbeats 4000000 in
set_option maxRecDepth 100000 in
theorem c_X5_exchange (l : Launch) (D : va_G) (cI cZ : ClassId) (a5 : Nat → Nat) (N : Nat) (σ : St) (x1 x2 x3 : Int32) : MV l yX5_exchange wsX5_exchange ({ frames := 2, cells := 0, slots := 0, locals := 48 } : Room) D cI cZ (wX5 a5 cI cZ) [.ref (a5 0), .int x1, .int x2, .int x3] σ (f_X5_exchange N σ x1 x2 x3) := by
  refine MV.of (cc := cX5_exchange) (maxL := 8) (ret := none) (own := RX5) (by decide) rfl rfl (Nat.le_of_ble_eq_true rfl) ?_
  intro u1 h p e s m args below meth c A C0 H locs ls hP hD hS hl
  obtain ⟨hx, hb, hml, hr, hown, hts, hlocks, hA, hK, hN⟩ := id C0
  have hl : lv_has ls 8 [(0, .ref (a5 0)), (1, .int x1), (2, .int x2), (3, .int x3)] := hl
  unfold f_X5_exchange at h
  refine lv_aload_n hx hb dX5_exchange_0 rfl (lv_at hl 0 rfl) ?_
  refine va_get (D := D) (ci := 5) (v := .int (σ 5 0)) (C := RX5) (T := TX5) (N := 30) hx hb hts in_X5_exchange_X5 hown hK hP 0 rfl rfl 5 (by decide) (hts (.fieldLink RX5 96 "TermLoomModel" "nodes" "I") (by decide +kernel)) (fun _ h9 => h9) rfl dX5_exchange_1 ?_
  refine lv_istore (lv' := [(4, .int (σ 5 0)), (0, .ref (a5 0)), (1, .int x1), (2, .int x2), (3, .int x3)]) hx hb dX5_exchange_4 hl (by decide) rfl (fun ls hl => ?_)
  refine lv_iconst (v := 0) hx hb dX5_exchange_6 rfl ?_
  refine lv_istore (lv' := [(5, .int 0), (4, .int (σ 5 0)), (0, .ref (a5 0)), (1, .int x1), (2, .int x2), (3, .int x3)]) hx hb dX5_exchange_7 hl (by decide) rfl (fun ls hl => ?_)
  exact k_X5_exchange_9 C0 N N σ x1 x2 x3 (σ 5 0) 0 _ _ _ hP hD hS (lv_sub hl [2, 3, 4, 5, 1, 0] rfl) h

theorem in_X5_retype_X5 : ∀ w ∈ u_ws RX5 TX5 30, w ∈ wsX5_retype := by decide +kernel
def f_X5_retype_24 (N : Nat) (σ : St) : Option (Int32 × St) := (f_X5_fail N σ 1).bind (fun q1 => some (q1.1, q1.2))
def f_X5_retype_208 (N : Nat) (σ : St) (x7 : Int32) : Option (Int32 × St) := some (x7, σ)
def f_X5_retype_193 (N : Nat) (σ : St) (x4 s0 : Int32) : Option (Int32 × St) := if (σ 0 0) ≤ 0 then f_X5_retype_208 N σ s0 else (f_X5_cut N σ x4).bind (fun q2 => f_X5_retype_208 N q2 s0)
def f_X5_retype_188 (N : Nat) (σ : St) (x4 : Int32) : Option (Int32 × St) := (f_X5_fail N σ 3).bind (fun q1 => f_X5_retype_193 N q1.2 x4 q1.1)
def f_X5_retype_128 (N : Nat) (k86 : St → Int32 → Int32 → Int32 → Int32 → Int32 → Option (Int32 × St)) (σ : St) (x1 x4 x6 x7 s0 : Int32) : Option (Int32 × St) := if x7 < 0 ∨ 34100 ≤ (x7).toNatClampNeg then none else if x7 < 0 ∨ 34100 ≤ (x7).toNatClampNeg then none else if (σ 21 (x7).toNatClampNeg) < 0 ∨ 16000 ≤ ((σ 21 (x7).toNatClampNeg)).toNatClampNeg then none else (f_X5_write N σ x6 (σ 20 (x7).toNatClampNeg) (σ 16 ((σ 21 (x7).toNatClampNeg)).toNatClampNeg)).bind (fun q1 => k86 q1.2 x1 x4 s0 q1.1 (x7 + 1))
def f_X5_retype_127 (N : Nat) (k86 : St → Int32 → Int32 → Int32 → Int32 → Int32 → Option (Int32 × St)) (σ : St) (x1 x4 x6 x7 : Int32) : Option (Int32 × St) := f_X5_retype_128 N k86 σ x1 x4 x6 x7 0
def f_X5_retype_86 (N : Nat) : Nat → St → Int32 → Int32 → Int32 → Int32 → Int32 → Option (Int32 × St)
  | 0, _, _, _, _, _, _ => none
  | n + 1, σ, x1, x4, x5, x6, x7 => if (x1 + 1) < 0 ∨ 4201 ≤ ((x1 + 1)).toNatClampNeg then none else if (σ 19 ((x1 + 1)).toNatClampNeg) ≤ x7 then if x5 = 0 then f_X5_retype_188 N σ x4 else if 8000 < (σ 5 0) then f_X5_retype_188 N σ x4 else (f_X5_finish N σ x6 3).bind (fun q4 => f_X5_retype_193 N q4.2 x4 q4.1) else if x5 = 0 then f_X5_retype_127 N (f_X5_retype_86 N n) σ x1 x4 x6 x7 else if x7 < 0 ∨ 34100 ≤ (x7).toNatClampNeg then none else if (σ 21 (x7).toNatClampNeg) < 0 ∨ 16000 ≤ ((σ 21 (x7).toNatClampNeg)).toNatClampNeg then none else (f_X5_isSmall N σ (σ 16 ((σ 21 (x7).toNatClampNeg)).toNatClampNeg)).bind (fun q6 => if q6.1 = 0 then f_X5_retype_127 N (f_X5_retype_86 N n) q6.2 x1 x4 x6 x7 else f_X5_retype_128 N (f_X5_retype_86 N n) q6.2 x1 x4 x6 x7 1)
def f_X5_retype (N : Nat) (σ : St) (x1 x2 x3 : Int32) : Option (Int32 × St) := bnd (up2 σ 0 0 0) (fun σ1 => (f_X5_isTerm N σ1 x1).bind (fun q2 => if q2.1 = 0 then f_X5_retype_24 N q2.2 else (f_X5_outside N x3 (q2.2 13 0)).bind (fun q4 => if q4.1 = 0 then (f_X5_outside N x2 1000).bind (fun q6 => if q6.1 = 0 then if x3 < 0 ∨ 4200 ≤ (x3).toNatClampNeg then none else (f_X5_exchange N q2.2 x1 x2 (q2.2 15 (x3).toNatClampNeg)).bind (fun q8 => if (q8 18 0) < 0 ∨ 4201 ≤ ((q8 18 0)).toNatClampNeg then none else if x1 < 0 ∨ 4201 ≤ (x1).toNatClampNeg then none else f_X5_retype_86 N N q8 x1 (q2.2 5 0) 1 (q8 19 ((q8 18 0)).toNatClampNeg) (q8 19 (x1).toNatClampNeg)) else (f_X5_fail N q2.2 2).bind (fun q9 => some (q9.1, q9.2))) else f_X5_retype_24 N q2.2)))
abbrev KP_X5_retype_24 (p : Program) (l : Launch) (e : Env) (s : State) (m : MethodId) (args : Array Value) (below : List Frame) (meth : Method) (c : Code) (D : va_G) (cI cZ : ClassId) (a5 : Nat → Nat) (A : Nat → Prop) (r : Int32) (u1 : St) (K : St → Option (Int32 × St)) : Prop := ∀ (σ : St) (H : Heap) (locs : List Loc) (ls : Array Slot), va_P D vwCl (wX5 a5 cI cZ σ) H → va_D A (wX5 a5 cI cZ σ) → va_S A s.heap H locs → lv_has ls 8 [(0, .ref (a5 0))] → K σ = some (r, u1) → W p l e ({ frames := 4, cells := 0, slots := 0, locals := 93 } : Room) s m args below meth c H locs 0 0 (QI below args s D cI cZ (wX5 a5 cI cZ) A r u1) (F0 m 24 ls [])
abbrev KP_X5_retype_208 (p : Program) (l : Launch) (e : Env) (s : State) (m : MethodId) (args : Array Value) (below : List Frame) (meth : Method) (c : Code) (D : va_G) (cI cZ : ClassId) (a5 : Nat → Nat) (A : Nat → Prop) (r : Int32) (u1 : St) (K : St → Int32 → Option (Int32 × St)) : Prop := ∀ (σ : St) (x7 : Int32) (H : Heap) (locs : List Loc) (ls : Array Slot), va_P D vwCl (wX5 a5 cI cZ σ) H → va_D A (wX5 a5 cI cZ σ) → va_S A s.heap H locs → lv_has ls 8 [(7, .int x7)] → K σ x7 = some (r, u1) → W p l e ({ frames := 4, cells := 0, slots := 0, locals := 93 } : Room) s m args below meth c H locs 0 0 (QI below args s D cI cZ (wX5 a5 cI cZ) A r u1) (F0 m 208 ls [])
abbrev KP_X5_retype_193 (p : Program) (l : Launch) (e : Env) (s : State) (m : MethodId) (args : Array Value) (below : List Frame) (meth : Method) (c : Code) (D : va_G) (cI cZ : ClassId) (a5 : Nat → Nat) (A : Nat → Prop) (r : Int32) (u1 : St) (K : St → Int32 → Int32 → Option (Int32 × St)) : Prop := ∀ (σ : St) (x4 s0 : Int32) (H : Heap) (locs : List Loc) (ls : Array Slot), va_P D vwCl (wX5 a5 cI cZ σ) H → va_D A (wX5 a5 cI cZ σ) → va_S A s.heap H locs → lv_has ls 8 [(0, .ref (a5 0)), (4, .int x4)] → K σ x4 s0 = some (r, u1) → W p l e ({ frames := 4, cells := 0, slots := 0, locals := 93 } : Room) s m args below meth c H locs 0 0 (QI below args s D cI cZ (wX5 a5 cI cZ) A r u1) (F0 m 193 ls [.int s0])
abbrev KP_X5_retype_188 (p : Program) (l : Launch) (e : Env) (s : State) (m : MethodId) (args : Array Value) (below : List Frame) (meth : Method) (c : Code) (D : va_G) (cI cZ : ClassId) (a5 : Nat → Nat) (A : Nat → Prop) (r : Int32) (u1 : St) (K : St → Int32 → Option (Int32 × St)) : Prop := ∀ (σ : St) (x4 : Int32) (H : Heap) (locs : List Loc) (ls : Array Slot), va_P D vwCl (wX5 a5 cI cZ σ) H → va_D A (wX5 a5 cI cZ σ) → va_S A s.heap H locs → lv_has ls 8 [(0, .ref (a5 0)), (4, .int x4)] → K σ x4 = some (r, u1) → W p l e ({ frames := 4, cells := 0, slots := 0, locals := 93 } : Room) s m args below meth c H locs 0 0 (QI below args s D cI cZ (wX5 a5 cI cZ) A r u1) (F0 m 188 ls [])
abbrev KP_X5_retype_128 (p : Program) (l : Launch) (e : Env) (s : State) (m : MethodId) (args : Array Value) (below : List Frame) (meth : Method) (c : Code) (D : va_G) (cI cZ : ClassId) (a5 : Nat → Nat) (A : Nat → Prop) (r : Int32) (u1 : St) (K : St → Int32 → Int32 → Int32 → Int32 → Int32 → Option (Int32 × St)) : Prop := ∀ (σ : St) (x1 x4 x6 x7 s0 : Int32) (H : Heap) (locs : List Loc) (ls : Array Slot), va_P D vwCl (wX5 a5 cI cZ σ) H → va_D A (wX5 a5 cI cZ σ) → va_S A s.heap H locs → lv_has ls 8 [(0, .ref (a5 0)), (1, .int x1), (4, .int x4), (6, .int x6), (7, .int x7)] → K σ x1 x4 x6 x7 s0 = some (r, u1) → W p l e ({ frames := 4, cells := 0, slots := 0, locals := 93 } : Room) s m args below meth c H locs 0 0 (QI below args s D cI cZ (wX5 a5 cI cZ) A r u1) (F0 m 128 ls [.int s0])
abbrev KP_X5_retype_127 (p : Program) (l : Launch) (e : Env) (s : State) (m : MethodId) (args : Array Value) (below : List Frame) (meth : Method) (c : Code) (D : va_G) (cI cZ : ClassId) (a5 : Nat → Nat) (A : Nat → Prop) (r : Int32) (u1 : St) (K : St → Int32 → Int32 → Int32 → Int32 → Option (Int32 × St)) : Prop := ∀ (σ : St) (x1 x4 x6 x7 : Int32) (H : Heap) (locs : List Loc) (ls : Array Slot), va_P D vwCl (wX5 a5 cI cZ σ) H → va_D A (wX5 a5 cI cZ σ) → va_S A s.heap H locs → lv_has ls 8 [(0, .ref (a5 0)), (1, .int x1), (4, .int x4), (6, .int x6), (7, .int x7)] → K σ x1 x4 x6 x7 = some (r, u1) → W p l e ({ frames := 4, cells := 0, slots := 0, locals := 93 } : Room) s m args below meth c H locs 0 0 (QI below args s D cI cZ (wX5 a5 cI cZ) A r u1) (F0 m 127 ls [])
abbrev KP_X5_retype_86 (p : Program) (l : Launch) (e : Env) (s : State) (m : MethodId) (args : Array Value) (below : List Frame) (meth : Method) (c : Code) (D : va_G) (cI cZ : ClassId) (a5 : Nat → Nat) (A : Nat → Prop) (r : Int32) (u1 : St) (K : St → Int32 → Int32 → Int32 → Int32 → Int32 → Option (Int32 × St)) : Prop := ∀ (σ : St) (x1 x4 x5 x6 x7 : Int32) (H : Heap) (locs : List Loc) (ls : Array Slot), va_P D vwCl (wX5 a5 cI cZ σ) H → va_D A (wX5 a5 cI cZ σ) → va_S A s.heap H locs → lv_has ls 8 [(0, .ref (a5 0)), (1, .int x1), (4, .int x4), (5, .int x5), (6, .int x6), (7, .int x7)] → K σ x1 x4 x5 x6 x7 = some (r, u1) → W p l e ({ frames := 4, cells := 0, slots := 0, locals := 93 } : Room) s m args below meth c H locs 0 0 (QI below args s D cI cZ (wX5 a5 cI cZ) A r u1) (F0 m 86 ls [])
set_option maxHeartbeats 4000000 in
set_option maxRecDepth 100000 in
theorem k_X5_retype_24 {p : Program} {l : Launch} {e : Env} {s : State} {m : MethodId} {args : Array Value} {below : List Frame} {meth : Method} {c : Code} {D : va_G} {cI cZ : ClassId} {a5 : Nat → Nat} {A : Nat → Prop} {r : Int32} {u1 : St} (C0 : mB p s m args meth c D cI cZ A cX5_retype 8 (some .int) wsX5_retype RX5) (N : Nat) : KP_X5_retype_24 p l e s m args below meth c D cI cZ a5 A r u1 (f_X5_retype_24 N) := by
  obtain ⟨hx, hb, hml, hr, hown, hts, hlocks, hA, hK, hN⟩ := id C0
  intro σ H locs ls hP hD hS hl h
  unfold f_X5_retype_24 at h
  refine lv_aload_n hx hb dX5_retype_24 rfl (lv_at hl 0 rfl) ?_
  refine lv_iconst (v := 1) hx hb dX5_retype_25 rfl ?_
  obtain ⟨q1, hq1, h⟩ := ob h
  refine mc_i (ws' := wX5 a5 cI cZ q1.2) (wr := ([] : va_W)) [0, 1, 2, 3, 4, 5, 6, 7, 8, 9, 10, 11, 12, 13, 14, 15, 16, 17, 18, 19, 20, 21, 22] [] [0, 1, 2, 3, 4, 5, 6, 7, 8, 9, 10, 11, 12, 13, 14, 15, 16, 17, 18, 19, 20, 21, 22] (va_runV (As := [.int 1]) (rest := []) ⟨hx, hb, hml, hown, hts⟩ (c_X5_fail l D cI cZ a5 N σ 1 q1.1 q1.2 hq1 H.size) (cwV 1 hts gX5_retype_X5_fail rfl rfl rfl (by decide +kernel) ⟨Nat.le_of_ble_eq_true rfl, Nat.le_of_ble_eq_true rfl⟩) (pV [0, 1, 2, 3, 4, 5, 6, 7, 8, 9, 10, 11, 12, 13, 14, 15, 16, 17, 18, 19, 20, 21, 22] hP hD hK hN rfl rfl rfl rfl) rfl rfl hl.1 rfl (lv_room (Nat.le_of_ble_eq_true rfl)) dX5_retype_26 ⟨Nat.le_of_ble_eq_true rfl, Nat.le_of_ble_eq_true rfl⟩) hP hD hS hA rfl rfl rfl (by decide) rfl rfl (fun H locs hP hD hS => ?_)
  obtain ⟨rfl, rfl⟩ := so h
  exact ret_i C0 hP hD hS dX5_retype_29
set_option maxHeartbeats 4000000 in
set_option maxRecDepth 100000 in
theorem k_X5_retype_208 {p : Program} {l : Launch} {e : Env} {s : State} {m : MethodId} {args : Array Value} {below : List Frame} {meth : Method} {c : Code} {D : va_G} {cI cZ : ClassId} {a5 : Nat → Nat} {A : Nat → Prop} {r : Int32} {u1 : St} (C0 : mB p s m args meth c D cI cZ A cX5_retype 8 (some .int) wsX5_retype RX5) (N : Nat) : KP_X5_retype_208 p l e s m args below meth c D cI cZ a5 A r u1 (f_X5_retype_208 N) := by
  obtain ⟨hx, hb, hml, hr, hown, hts, hlocks, hA, hK, hN⟩ := id C0
  intro σ x7 H locs ls hP hD hS hl h
  unfold f_X5_retype_208 at h
  refine lv_iload hx hb dX5_retype_208 (lv_at hl 0 rfl) ?_
  obtain ⟨rfl, rfl⟩ := so h
  exact ret_i C0 hP hD hS dX5_retype_210
set_option maxHeartbeats 4000000 in
set_option maxRecDepth 100000 in
theorem k_X5_retype_193 {p : Program} {l : Launch} {e : Env} {s : State} {m : MethodId} {args : Array Value} {below : List Frame} {meth : Method} {c : Code} {D : va_G} {cI cZ : ClassId} {a5 : Nat → Nat} {A : Nat → Prop} {r : Int32} {u1 : St} (C0 : mB p s m args meth c D cI cZ A cX5_retype 8 (some .int) wsX5_retype RX5) (N : Nat) : KP_X5_retype_193 p l e s m args below meth c D cI cZ a5 A r u1 (f_X5_retype_193 N) := by
  obtain ⟨hx, hb, hml, hr, hown, hts, hlocks, hA, hK, hN⟩ := id C0
  intro σ x4 s0 H locs ls hP hD hS hl h
  unfold f_X5_retype_193 at h
  refine lv_istore (lv' := [(7, .int s0), (0, .ref (a5 0)), (4, .int x4)]) hx hb dX5_retype_193 hl (by decide) rfl (fun ls hl => ?_)
  refine lv_aload_n hx hb dX5_retype_195 rfl (lv_at hl 1 rfl) ?_
  refine va_get (D := D) (ci := 5) (v := .int (σ 0 0)) (C := RX5) (T := TX5) (N := 30) hx hb hts in_X5_retype_X5 hown hK hP 0 rfl rfl 0 (by decide) (hts (.fieldLink RX5 85 "TermLoomModel" "code" "I") (by decide +kernel)) (fun _ h9 => h9) rfl dX5_retype_196 ?_
  refine lv_if_le (tgt := 208) hx hb dX5_retype_199 (by decide) (fun hc1 => ?_) (fun hc1 => ?_)
  · rw [if_pos hc1] at h
    exact k_X5_retype_208 C0 N σ s0 _ _ _ hP hD hS (lv_sub hl [0] rfl) h
  · rw [if_neg hc1] at h
    refine lv_aload_n hx hb dX5_retype_202 rfl (lv_at hl 1 rfl) ?_
    refine lv_iload hx hb dX5_retype_203 (lv_at hl 2 rfl) ?_
    obtain ⟨q2, hq2, h⟩ := ob h
    refine mc_v (ws' := wX5 a5 cI cZ q2) (wr := ([] : va_W)) [0, 1, 2, 3, 4, 5, 6, 7, 8, 9, 10, 11, 12, 13, 14, 15, 16, 17, 18, 19, 20, 21, 22] [] [0, 1, 2, 3, 4, 5, 6, 7, 8, 9, 10, 11, 12, 13, 14, 15, 16, 17, 18, 19, 20, 21, 22] (va_runV (As := [.int x4]) (rest := []) ⟨hx, hb, hml, hown, hts⟩ (c_X5_cut l D cI cZ a5 N σ x4 q2 hq2 H.size) (cwV 1 hts gX5_retype_X5_cut rfl rfl rfl (by decide +kernel) ⟨Nat.le_of_ble_eq_true rfl, Nat.le_of_ble_eq_true rfl⟩) (pV [0, 1, 2, 3, 4, 5, 6, 7, 8, 9, 10, 11, 12, 13, 14, 15, 16, 17, 18, 19, 20, 21, 22] hP hD hK hN rfl rfl rfl rfl) rfl rfl hl.1 rfl (lv_room (Nat.le_of_ble_eq_true rfl)) dX5_retype_205 ⟨Nat.le_of_ble_eq_true rfl, Nat.le_of_ble_eq_true rfl⟩) hP hD hS hA rfl rfl rfl (by decide) rfl rfl (fun H locs hP hD hS => ?_)
    exact k_X5_retype_208 C0 N q2 s0 _ _ _ hP hD hS (lv_sub hl [0] rfl) h
set_option maxHeartbeats 4000000 in
set_option maxRecDepth 100000 in
theorem k_X5_retype_188 {p : Program} {l : Launch} {e : Env} {s : State} {m : MethodId} {args : Array Value} {below : List Frame} {meth : Method} {c : Code} {D : va_G} {cI cZ : ClassId} {a5 : Nat → Nat} {A : Nat → Prop} {r : Int32} {u1 : St} (C0 : mB p s m args meth c D cI cZ A cX5_retype 8 (some .int) wsX5_retype RX5) (N : Nat) : KP_X5_retype_188 p l e s m args below meth c D cI cZ a5 A r u1 (f_X5_retype_188 N) := by
  obtain ⟨hx, hb, hml, hr, hown, hts, hlocks, hA, hK, hN⟩ := id C0
  intro σ x4 H locs ls hP hD hS hl h
  unfold f_X5_retype_188 at h
  refine lv_aload_n hx hb dX5_retype_188 rfl (lv_at hl 0 rfl) ?_
  refine lv_iconst (v := 3) hx hb dX5_retype_189 rfl ?_
  obtain ⟨q1, hq1, h⟩ := ob h
  refine mc_i (ws' := wX5 a5 cI cZ q1.2) (wr := ([] : va_W)) [0, 1, 2, 3, 4, 5, 6, 7, 8, 9, 10, 11, 12, 13, 14, 15, 16, 17, 18, 19, 20, 21, 22] [] [0, 1, 2, 3, 4, 5, 6, 7, 8, 9, 10, 11, 12, 13, 14, 15, 16, 17, 18, 19, 20, 21, 22] (va_runV (As := [.int 3]) (rest := []) ⟨hx, hb, hml, hown, hts⟩ (c_X5_fail l D cI cZ a5 N σ 3 q1.1 q1.2 hq1 H.size) (cwV 1 hts gX5_retype_X5_fail rfl rfl rfl (by decide +kernel) ⟨Nat.le_of_ble_eq_true rfl, Nat.le_of_ble_eq_true rfl⟩) (pV [0, 1, 2, 3, 4, 5, 6, 7, 8, 9, 10, 11, 12, 13, 14, 15, 16, 17, 18, 19, 20, 21, 22] hP hD hK hN rfl rfl rfl rfl) rfl rfl hl.1 rfl (lv_room (Nat.le_of_ble_eq_true rfl)) dX5_retype_190 ⟨Nat.le_of_ble_eq_true rfl, Nat.le_of_ble_eq_true rfl⟩) hP hD hS hA rfl rfl rfl (by decide) rfl rfl (fun H locs hP hD hS => ?_)
  exact k_X5_retype_193 C0 N q1.2 x4 q1.1 _ _ _ hP hD hS (lv_sub hl [0, 1] rfl) h
set_option maxHeartbeats 4000000 in
set_option maxRecDepth 100000 in
theorem k_X5_retype_128 {p : Program} {l : Launch} {e : Env} {s : State} {m : MethodId} {args : Array Value} {below : List Frame} {meth : Method} {c : Code} {D : va_G} {cI cZ : ClassId} {a5 : Nat → Nat} {A : Nat → Prop} {r : Int32} {u1 : St} (C0 : mB p s m args meth c D cI cZ A cX5_retype 8 (some .int) wsX5_retype RX5) (N : Nat) (k86 : St → Int32 → Int32 → Int32 → Int32 → Int32 → Option (Int32 × St)) (hk86 : KP_X5_retype_86 p l e s m args below meth c D cI cZ a5 A r u1 k86) : KP_X5_retype_128 p l e s m args below meth c D cI cZ a5 A r u1 (f_X5_retype_128 N k86) := by
  obtain ⟨hx, hb, hml, hr, hown, hts, hlocks, hA, hK, hN⟩ := id C0
  intro σ x1 x4 x6 x7 s0 H locs ls hP hD hS hl h
  unfold f_X5_retype_128 at h
  refine lv_istore (lv' := [(5, .int s0), (0, .ref (a5 0)), (1, .int x1), (4, .int x4), (6, .int x6), (7, .int x7)]) hx hb dX5_retype_128 hl (by decide) rfl (fun ls hl => ?_)
  refine lv_aload_n hx hb dX5_retype_130 rfl (lv_at hl 1 rfl) ?_
  refine lv_iload hx hb dX5_retype_131 (lv_at hl 4 rfl) ?_
  refine lv_aload_n hx hb dX5_retype_133 rfl (lv_at hl 1 rfl) ?_
  refine va_get (D := D) (ci := 5) (v := .ref (a5 21)) (C := RX5) (T := TX5) (N := 30) hx hb hts in_X5_retype_X5 hown hK hP 0 rfl rfl 20 (by decide) (hts (.fieldLink RX5 55 "TermLoomModel" "symbol" "[I") (by decide +kernel)) (fun _ h9 => h9) rfl dX5_retype_134 ?_
  refine lv_iload hx hb dX5_retype_137 (lv_at hl 5 rfl) ?_
  by_cases hi : x7 < 0 ∨ 34100 ≤ (x7).toNatClampNeg
  · rw [if_pos hi] at h; exact no h
  rw [if_neg hi] at h
  refine va_iald (f := (σ 20)) hx hb hK hP 14 0 rfl rfl (i := x7) hi dX5_retype_139 ?_
  refine lv_aload_n hx hb dX5_retype_140 rfl (lv_at hl 1 rfl) ?_
  refine va_get (D := D) (ci := 5) (v := .ref (a5 17)) (C := RX5) (T := TX5) (N := 30) hx hb hts in_X5_retype_X5 hown hK hP 0 rfl rfl 16 (by decide) (hts (.fieldLink RX5 44 "TermLoomModel" "image" "[I") (by decide +kernel)) (fun _ h9 => h9) rfl dX5_retype_141 ?_
  refine lv_aload_n hx hb dX5_retype_144 rfl (lv_at hl 1 rfl) ?_
  refine va_get (D := D) (ci := 5) (v := .ref (a5 22)) (C := RX5) (T := TX5) (N := 30) hx hb hts in_X5_retype_X5 hown hK hP 0 rfl rfl 21 (by decide) (hts (.fieldLink RX5 58 "TermLoomModel" "type" "[I") (by decide +kernel)) (fun _ h9 => h9) rfl dX5_retype_145 ?_
  refine lv_iload hx hb dX5_retype_148 (lv_at hl 5 rfl) ?_
  by_cases hi : x7 < 0 ∨ 34100 ≤ (x7).toNatClampNeg
  · rw [if_pos hi] at h; exact no h
  rw [if_neg hi] at h
  refine va_iald (f := (σ 21)) hx hb hK hP 15 0 rfl rfl (i := x7) hi dX5_retype_150 ?_
  by_cases hi : (σ 21 (x7).toNatClampNeg) < 0 ∨ 16000 ≤ ((σ 21 (x7).toNatClampNeg)).toNatClampNeg
  · rw [if_pos hi] at h; exact no h
  rw [if_neg hi] at h
  refine va_iald (f := (σ 16)) hx hb hK hP 11 0 rfl rfl (i := (σ 21 (x7).toNatClampNeg)) hi dX5_retype_151 ?_
  obtain ⟨q1, hq1, h⟩ := ob h
  refine mc_i (ws' := wX5 a5 cI cZ q1.2) (wr := ([] : va_W)) [0, 1, 2, 3, 4, 5, 6, 7, 8, 9, 10, 11, 12, 13, 14, 15, 16, 17, 18, 19, 20, 21, 22] [] [0, 1, 2, 3, 4, 5, 6, 7, 8, 9, 10, 11, 12, 13, 14, 15, 16, 17, 18, 19, 20, 21, 22] (va_runV (As := [.int x6, .int (σ 20 (x7).toNatClampNeg), .int (σ 16 ((σ 21 (x7).toNatClampNeg)).toNatClampNeg)]) (rest := []) ⟨hx, hb, hml, hown, hts⟩ (c_X5_write l D cI cZ a5 N σ x6 (σ 20 (x7).toNatClampNeg) (σ 16 ((σ 21 (x7).toNatClampNeg)).toNatClampNeg) q1.1 q1.2 hq1 H.size) (cwV 3 hts gX5_retype_X5_write rfl rfl rfl (by decide +kernel) ⟨Nat.le_of_ble_eq_true rfl, Nat.le_of_ble_eq_true rfl⟩) (pV [0, 1, 2, 3, 4, 5, 6, 7, 8, 9, 10, 11, 12, 13, 14, 15, 16, 17, 18, 19, 20, 21, 22] hP hD hK hN rfl rfl rfl rfl) rfl rfl hl.1 rfl (lv_room (Nat.le_of_ble_eq_true rfl)) dX5_retype_152 ⟨Nat.le_of_ble_eq_true rfl, Nat.le_of_ble_eq_true rfl⟩) hP hD hS hA rfl rfl rfl (by decide) rfl rfl (fun H locs hP hD hS => ?_)
  refine lv_istore (lv' := [(6, .int q1.1), (5, .int s0), (0, .ref (a5 0)), (1, .int x1), (4, .int x4), (7, .int x7)]) hx hb dX5_retype_155 hl (by decide) rfl (fun ls hl => ?_)
  refine lv_iinc (v := (x7 + 1)) (lv' := [(7, .int (x7 + 1)), (6, .int q1.1), (5, .int s0), (0, .ref (a5 0)), (1, .int x1), (4, .int x4)]) hx hb dX5_retype_157 hl (k := 5) rfl rfl (by decide) rfl (fun ls hl => ?_)
  refine lv_goto (tgt := 86) hx hb dX5_retype_160 (by decide) ?_
  exact hk86 q1.2 x1 x4 s0 q1.1 (x7 + 1) _ _ _ hP hD hS (lv_sub hl [3, 4, 5, 2, 1, 0] rfl) h
set_option maxHeartbeats 4000000 in
set_option maxRecDepth 100000 in
theorem k_X5_retype_127 {p : Program} {l : Launch} {e : Env} {s : State} {m : MethodId} {args : Array Value} {below : List Frame} {meth : Method} {c : Code} {D : va_G} {cI cZ : ClassId} {a5 : Nat → Nat} {A : Nat → Prop} {r : Int32} {u1 : St} (C0 : mB p s m args meth c D cI cZ A cX5_retype 8 (some .int) wsX5_retype RX5) (N : Nat) (k86 : St → Int32 → Int32 → Int32 → Int32 → Int32 → Option (Int32 × St)) (hk86 : KP_X5_retype_86 p l e s m args below meth c D cI cZ a5 A r u1 k86) : KP_X5_retype_127 p l e s m args below meth c D cI cZ a5 A r u1 (f_X5_retype_127 N k86) := by
  obtain ⟨hx, hb, hml, hr, hown, hts, hlocks, hA, hK, hN⟩ := id C0
  intro σ x1 x4 x6 x7 H locs ls hP hD hS hl h
  unfold f_X5_retype_127 at h
  refine lv_iconst (v := 0) hx hb dX5_retype_127 rfl ?_
  exact k_X5_retype_128 C0 N k86 hk86 σ x1 x4 x6 x7 0 _ _ _ hP hD hS (lv_sub hl [0, 1, 2, 3, 4] rfl) h
set_option maxHeartbeats 4000000 in
set_option maxRecDepth 100000 in
theorem k_X5_retype_86 {p : Program} {l : Launch} {e : Env} {s : State} {m : MethodId} {args : Array Value} {below : List Frame} {meth : Method} {c : Code} {D : va_G} {cI cZ : ClassId} {a5 : Nat → Nat} {A : Nat → Prop} {r : Int32} {u1 : St} (C0 : mB p s m args meth c D cI cZ A cX5_retype 8 (some .int) wsX5_retype RX5) (N : Nat) : ∀ n : Nat, KP_X5_retype_86 p l e s m args below meth c D cI cZ a5 A r u1 (f_X5_retype_86 N n) := by
  obtain ⟨hx, hb, hml, hr, hown, hts, hlocks, hA, hK, hN⟩ := id C0
  intro n
  induction n with
  | zero =>
    intro σ x1 x4 x5 x6 x7 H locs ls hP hD hS hl h
    exact no (show (none : Option (Int32 × St)) = _ from h)
  | succ n ih =>
    intro σ x1 x4 x5 x6 x7 H locs ls hP hD hS hl h
    rw [f_X5_retype_86] at h
    refine lv_iload hx hb dX5_retype_86 (lv_at hl 5 rfl) ?_
    refine lv_aload_n hx hb dX5_retype_88 rfl (lv_at hl 0 rfl) ?_
    refine va_get (D := D) (ci := 5) (v := .ref (a5 20)) (C := RX5) (T := TX5) (N := 30) hx hb hts in_X5_retype_X5 hown hK hP 0 rfl rfl 19 (by decide) (hts (.fieldLink RX5 51 "TermLoomModel" "begin" "[I") (by decide +kernel)) (fun _ h9 => h9) rfl dX5_retype_89 ?_
    refine lv_iload_n hx hb dX5_retype_92 rfl (lv_at hl 1 rfl) ?_
    refine lv_iconst (v := 1) hx hb dX5_retype_93 rfl ?_
    refine lv_iadd hx hb dX5_retype_94 ?_
    by_cases hi : (x1 + 1) < 0 ∨ 4201 ≤ ((x1 + 1)).toNatClampNeg
    · rw [if_pos hi] at h; exact no h
    rw [if_neg hi] at h
    refine va_iald (f := (σ 19)) hx hb hK hP 13 0 rfl rfl (i := (x1 + 1)) hi dX5_retype_95 ?_
    refine lv_icmp_ge (tgt := 163) hx hb dX5_retype_96 (by decide) (fun hc1 => ?_) (fun hc1 => ?_)
    · rw [if_pos hc1] at h
      refine lv_iload hx hb dX5_retype_163 (lv_at hl 3 rfl) ?_
      refine lv_if_eq (tgt := 188) hx hb dX5_retype_165 (by decide) (fun hc2 => ?_) (fun hc2 => ?_)
      · rw [if_pos hc2] at h
        exact k_X5_retype_188 C0 N σ x4 _ _ _ hP hD hS (lv_sub hl [0, 2] rfl) h
      · rw [if_neg hc2] at h
        refine lv_aload_n hx hb dX5_retype_168 rfl (lv_at hl 0 rfl) ?_
        refine va_get (D := D) (ci := 5) (v := .int (σ 5 0)) (C := RX5) (T := TX5) (N := 30) hx hb hts in_X5_retype_X5 hown hK hP 0 rfl rfl 5 (by decide) (hts (.fieldLink RX5 96 "TermLoomModel" "nodes" "I") (by decide +kernel)) (fun _ h9 => h9) rfl dX5_retype_169 ?_
        refine lv_sipush (v := 8000) hx hb dX5_retype_172 rfl ?_
        refine lv_icmp_gt (tgt := 188) hx hb dX5_retype_175 (by decide) (fun hc3 => ?_) (fun hc3 => ?_)
        · rw [if_pos hc3] at h
          exact k_X5_retype_188 C0 N σ x4 _ _ _ hP hD hS (lv_sub hl [0, 2] rfl) h
        · rw [if_neg hc3] at h
          refine lv_aload_n hx hb dX5_retype_178 rfl (lv_at hl 0 rfl) ?_
          refine lv_iload hx hb dX5_retype_179 (lv_at hl 4 rfl) ?_
          refine lv_iconst (v := 3) hx hb dX5_retype_181 rfl ?_
          obtain ⟨q4, hq4, h⟩ := ob h
          refine mc_i (ws' := wX5 a5 cI cZ q4.2) (wr := ([] : va_W)) [0, 1, 2, 3, 4, 5, 6, 7, 8, 9, 10, 11, 12, 13, 14, 15, 16, 17, 18, 19, 20, 21, 22] [] [0, 1, 2, 3, 4, 5, 6, 7, 8, 9, 10, 11, 12, 13, 14, 15, 16, 17, 18, 19, 20, 21, 22] (va_runV (As := [.int x6, .int 3]) (rest := []) ⟨hx, hb, hml, hown, hts⟩ (c_X5_finish l D cI cZ a5 N σ x6 3 q4.1 q4.2 hq4 H.size) (cwV 2 hts gX5_retype_X5_finish rfl rfl rfl (by decide +kernel) ⟨Nat.le_of_ble_eq_true rfl, Nat.le_of_ble_eq_true rfl⟩) (pV [0, 1, 2, 3, 4, 5, 6, 7, 8, 9, 10, 11, 12, 13, 14, 15, 16, 17, 18, 19, 20, 21, 22] hP hD hK hN rfl rfl rfl rfl) rfl rfl hl.1 rfl (lv_room (Nat.le_of_ble_eq_true rfl)) dX5_retype_182 ⟨Nat.le_of_ble_eq_true rfl, Nat.le_of_ble_eq_true rfl⟩) hP hD hS hA rfl rfl rfl (by decide) rfl rfl (fun H locs hP hD hS => ?_)
          refine lv_goto (tgt := 193) hx hb dX5_retype_185 (by decide) ?_
          exact k_X5_retype_193 C0 N q4.2 x4 q4.1 _ _ _ hP hD hS (lv_sub hl [0, 2] rfl) h
    · rw [if_neg hc1] at h
      refine lv_iload hx hb dX5_retype_99 (lv_at hl 3 rfl) ?_
      refine lv_if_eq (tgt := 127) hx hb dX5_retype_101 (by decide) (fun hc5 => ?_) (fun hc5 => ?_)
      · rw [if_pos hc5] at h
        exact k_X5_retype_127 C0 N (f_X5_retype_86 N n) ih σ x1 x4 x6 x7 _ _ _ hP hD hS (lv_sub hl [0, 1, 2, 4, 5] rfl) h
      · rw [if_neg hc5] at h
        refine lv_aload_n hx hb dX5_retype_104 rfl (lv_at hl 0 rfl) ?_
        refine lv_aload_n hx hb dX5_retype_105 rfl (lv_at hl 0 rfl) ?_
        refine va_get (D := D) (ci := 5) (v := .ref (a5 17)) (C := RX5) (T := TX5) (N := 30) hx hb hts in_X5_retype_X5 hown hK hP 0 rfl rfl 16 (by decide) (hts (.fieldLink RX5 44 "TermLoomModel" "image" "[I") (by decide +kernel)) (fun _ h9 => h9) rfl dX5_retype_106 ?_
        refine lv_aload_n hx hb dX5_retype_109 rfl (lv_at hl 0 rfl) ?_
        refine va_get (D := D) (ci := 5) (v := .ref (a5 22)) (C := RX5) (T := TX5) (N := 30) hx hb hts in_X5_retype_X5 hown hK hP 0 rfl rfl 21 (by decide) (hts (.fieldLink RX5 58 "TermLoomModel" "type" "[I") (by decide +kernel)) (fun _ h9 => h9) rfl dX5_retype_110 ?_
        refine lv_iload hx hb dX5_retype_113 (lv_at hl 5 rfl) ?_
        by_cases hi : x7 < 0 ∨ 34100 ≤ (x7).toNatClampNeg
        · rw [if_pos hi] at h; exact no h
        rw [if_neg hi] at h
        refine va_iald (f := (σ 21)) hx hb hK hP 15 0 rfl rfl (i := x7) hi dX5_retype_115 ?_
        by_cases hi : (σ 21 (x7).toNatClampNeg) < 0 ∨ 16000 ≤ ((σ 21 (x7).toNatClampNeg)).toNatClampNeg
        · rw [if_pos hi] at h; exact no h
        rw [if_neg hi] at h
        refine va_iald (f := (σ 16)) hx hb hK hP 11 0 rfl rfl (i := (σ 21 (x7).toNatClampNeg)) hi dX5_retype_116 ?_
        obtain ⟨q6, hq6, h⟩ := ob h
        refine mc_i (ws' := wX5 a5 cI cZ q6.2) (wr := ([] : va_W)) [0, 1, 2, 3, 4, 5, 6, 7, 8, 9, 10, 11, 12, 13, 14, 15, 16, 17, 18, 19, 20, 21, 22] [] [0, 1, 2, 3, 4, 5, 6, 7, 8, 9, 10, 11, 12, 13, 14, 15, 16, 17, 18, 19, 20, 21, 22] (va_runV (As := [.int (σ 16 ((σ 21 (x7).toNatClampNeg)).toNatClampNeg)]) (rest := []) ⟨hx, hb, hml, hown, hts⟩ (c_X5_isSmall l D cI cZ a5 N σ (σ 16 ((σ 21 (x7).toNatClampNeg)).toNatClampNeg) q6.1 q6.2 hq6 H.size) (cwV 1 hts gX5_retype_X5_isSmall rfl rfl rfl (by decide +kernel) ⟨Nat.le_of_ble_eq_true rfl, Nat.le_of_ble_eq_true rfl⟩) (pV [0, 1, 2, 3, 4, 5, 6, 7, 8, 9, 10, 11, 12, 13, 14, 15, 16, 17, 18, 19, 20, 21, 22] hP hD hK hN rfl rfl rfl rfl) rfl rfl hl.1 rfl (lv_room (Nat.le_of_ble_eq_true rfl)) dX5_retype_117 ⟨Nat.le_of_ble_eq_true rfl, Nat.le_of_ble_eq_true rfl⟩) hP hD hS hA rfl rfl rfl (by decide) rfl rfl (fun H locs hP hD hS => ?_)
        refine lv_if_eq (tgt := 127) hx hb dX5_retype_120 (by decide) (fun hc7 => ?_) (fun hc7 => ?_)
        · rw [if_pos hc7] at h
          exact k_X5_retype_127 C0 N (f_X5_retype_86 N n) ih q6.2 x1 x4 x6 x7 _ _ _ hP hD hS (lv_sub hl [0, 1, 2, 4, 5] rfl) h
        · rw [if_neg hc7] at h
          refine lv_iconst (v := 1) hx hb dX5_retype_123 rfl ?_
          refine lv_goto (tgt := 128) hx hb dX5_retype_124 (by decide) ?_
          exact k_X5_retype_128 C0 N (f_X5_retype_86 N n) ih q6.2 x1 x4 x6 x7 1 _ _ _ hP hD hS (lv_sub hl [0, 1, 2, 4, 5] rfl) h
set_option maxHeartbeats 4000000 in
set_option maxRecDepth 100000 in
theorem c_X5_retype (l : Launch) (D : va_G) (cI cZ : ClassId) (a5 : Nat → Nat) (N : Nat) (σ : St) (x1 x2 x3 : Int32) : MI l yX5_retype wsX5_retype ({ frames := 4, cells := 0, slots := 0, locals := 93 } : Room) D cI cZ (wX5 a5 cI cZ) [.ref (a5 0), .int x1, .int x2, .int x3] σ (f_X5_retype N σ x1 x2 x3) := by
  refine MI.of (cc := cX5_retype) (maxL := 8) (ret := (some .int)) (own := RX5) (by decide) rfl rfl (Nat.le_of_ble_eq_true rfl) ?_
  intro r u1 h p e s m args below meth c A C0 H locs ls hP hD hS hl
  obtain ⟨hx, hb, hml, hr, hown, hts, hlocks, hA, hK, hN⟩ := id C0
  have hl : lv_has ls 8 [(0, .ref (a5 0)), (1, .int x1), (2, .int x2), (3, .int x3)] := hl
  unfold f_X5_retype at h
  refine lv_aload_n hx hb dX5_retype_0 rfl (lv_at hl 0 rfl) ?_
  refine lv_iconst (v := 0) hx hb dX5_retype_1 rfl ?_
  refine va_put (D := D) (ci := 5) (v := .int 0) (ty := .int) (C := RX5) (T := TX5) (N := 30) hx hb hts in_X5_retype_X5 tyX5 tyX5_ok nmX5 hown hK hP hD hS 0 rfl rfl 0 (by decide) (hts (.fieldLink RX5 85 "TermLoomModel" "code" "I") (by decide +kernel)) (fun _ h9 => h9) rfl (by decide +kernel) rfl rfl (Nat.le_of_ble_eq_true rfl) dX5_retype_2 (fun H locs hP hD hS => ?_)
  obtain ⟨σ1, eσ1, h⟩ := bn h
  have hP : va_P D vwCl (wX5 a5 cI cZ σ1) H := by rw [eσ1]; exact hP
  have hD : va_D A (wX5 a5 cI cZ σ1) := by rw [eσ1]; exact hD
  refine lv_aload_n hx hb dX5_retype_5 rfl (lv_at hl 0 rfl) ?_
  refine lv_iload_n hx hb dX5_retype_6 rfl (lv_at hl 1 rfl) ?_
  obtain ⟨q2, hq2, h⟩ := ob h
  refine mc_i (ws' := wX5 a5 cI cZ q2.2) (wr := ([] : va_W)) [0, 1, 2, 3, 4, 5, 6, 7, 8, 9, 10, 11, 12, 13, 14, 15, 16, 17, 18, 19, 20, 21, 22] [] [0, 1, 2, 3, 4, 5, 6, 7, 8, 9, 10, 11, 12, 13, 14, 15, 16, 17, 18, 19, 20, 21, 22] (va_runV (As := [.int x1]) (rest := []) ⟨hx, hb, hml, hown, hts⟩ (c_X5_isTerm l D cI cZ a5 N σ1 x1 q2.1 q2.2 hq2 H.size) (cwV 1 hts gX5_retype_X5_isTerm rfl rfl rfl (by decide +kernel) ⟨Nat.le_of_ble_eq_true rfl, Nat.le_of_ble_eq_true rfl⟩) (pV [0, 1, 2, 3, 4, 5, 6, 7, 8, 9, 10, 11, 12, 13, 14, 15, 16, 17, 18, 19, 20, 21, 22] hP hD hK hN rfl rfl rfl rfl) rfl rfl hl.1 rfl (lv_room (Nat.le_of_ble_eq_true rfl)) dX5_retype_7 ⟨Nat.le_of_ble_eq_true rfl, Nat.le_of_ble_eq_true rfl⟩) hP hD hS hA rfl rfl rfl (by decide) rfl rfl (fun H locs hP hD hS => ?_)
  refine lv_if_eq (tgt := 24) hx hb dX5_retype_10 (by decide) (fun hc3 => ?_) (fun hc3 => ?_)
  · rw [if_pos hc3] at h
    exact k_X5_retype_24 C0 N q2.2 _ _ _ hP hD hS (lv_sub hl [0] rfl) h
  · rw [if_neg hc3] at h
    refine lv_iload_n hx hb dX5_retype_13 rfl (lv_at hl 3 rfl) ?_
    refine lv_aload_n hx hb dX5_retype_14 rfl (lv_at hl 0 rfl) ?_
    refine va_get (D := D) (ci := 5) (v := .int (q2.2 13 0)) (C := RX5) (T := TX5) (N := 30) hx hb hts in_X5_retype_X5 hown hK hP 0 rfl rfl 13 (by decide) (hts (.fieldLink RX5 110 "TermLoomModel" "types" "I") (by decide +kernel)) (fun _ h9 => h9) rfl dX5_retype_15 ?_
    obtain ⟨q4, hq4, h⟩ := ob h
    refine mc_i (ws' := wX5 a5 cI cZ q2.2) (wr := ((wX5o a5 cI cZ q2.2) : va_W)) [] [0, 1, 2, 3, 4, 5, 6, 7, 8, 9, 10, 11, 12, 13, 14, 15, 16, 17, 18, 19, 20, 21, 22] [0, 1, 2, 3, 4, 5, 6, 7, 8, 9, 10, 11, 12, 13, 14, 15, 16, 17, 18, 19, 20, 21, 22] (va_runS (As := [.int x3, .int (q2.2 13 0)]) (rest := []) ⟨hx, hb, hml, hown, hts⟩ (c_X5_outside l D cI cZ N x3 (q2.2 13 0) q4.1 q4.2 hq4 H.size) (va_cwS 2 hts gX5_retype_X5_outside rfl rfl rfl (by decide +kernel) ⟨Nat.le_of_ble_eq_true rfl, Nat.le_of_ble_eq_true rfl⟩) (pS [] hP hD hK hN rfl rfl) rfl rfl hl.1 rfl (lv_room (Nat.le_of_ble_eq_true rfl)) dX5_retype_18 ⟨Nat.le_of_ble_eq_true rfl, Nat.le_of_ble_eq_true rfl⟩) hP hD hS hA rfl rfl rfl (by decide) rfl rfl (fun H locs hP hD hS => ?_)
    refine lv_if_eq (tgt := 30) hx hb dX5_retype_21 (by decide) (fun hc5 => ?_) (fun hc5 => ?_)
    · rw [if_pos hc5] at h
      refine lv_iload_n hx hb dX5_retype_30 rfl (lv_at hl 2 rfl) ?_
      refine lv_sipush (v := 1000) hx hb dX5_retype_31 rfl ?_
      obtain ⟨q6, hq6, h⟩ := ob h
      refine mc_i (ws' := wX5 a5 cI cZ q2.2) (wr := ((wX5o a5 cI cZ q2.2) : va_W)) [] [0, 1, 2, 3, 4, 5, 6, 7, 8, 9, 10, 11, 12, 13, 14, 15, 16, 17, 18, 19, 20, 21, 22] [0, 1, 2, 3, 4, 5, 6, 7, 8, 9, 10, 11, 12, 13, 14, 15, 16, 17, 18, 19, 20, 21, 22] (va_runS (As := [.int x2, .int 1000]) (rest := []) ⟨hx, hb, hml, hown, hts⟩ (c_X5_outside l D cI cZ N x2 1000 q6.1 q6.2 hq6 H.size) (va_cwS 2 hts gX5_retype_X5_outside rfl rfl rfl (by decide +kernel) ⟨Nat.le_of_ble_eq_true rfl, Nat.le_of_ble_eq_true rfl⟩) (pS [] hP hD hK hN rfl rfl) rfl rfl hl.1 rfl (lv_room (Nat.le_of_ble_eq_true rfl)) dX5_retype_34 ⟨Nat.le_of_ble_eq_true rfl, Nat.le_of_ble_eq_true rfl⟩) hP hD hS hA rfl rfl rfl (by decide) rfl rfl (fun H locs hP hD hS => ?_)
      refine lv_if_eq (tgt := 46) hx hb dX5_retype_37 (by decide) (fun hc7 => ?_) (fun hc7 => ?_)
      · rw [if_pos hc7] at h
        refine lv_aload_n hx hb dX5_retype_46 rfl (lv_at hl 0 rfl) ?_
        refine va_get (D := D) (ci := 5) (v := .int (q2.2 5 0)) (C := RX5) (T := TX5) (N := 30) hx hb hts in_X5_retype_X5 hown hK hP 0 rfl rfl 5 (by decide) (hts (.fieldLink RX5 96 "TermLoomModel" "nodes" "I") (by decide +kernel)) (fun _ h9 => h9) rfl dX5_retype_47 ?_
        refine lv_istore (lv' := [(4, .int (q2.2 5 0)), (0, .ref (a5 0)), (1, .int x1), (2, .int x2), (3, .int x3)]) hx hb dX5_retype_50 hl (by decide) rfl (fun ls hl => ?_)
        refine lv_aload_n hx hb dX5_retype_52 rfl (lv_at hl 1 rfl) ?_
        refine lv_iload_n hx hb dX5_retype_53 rfl (lv_at hl 2 rfl) ?_
        refine lv_iload_n hx hb dX5_retype_54 rfl (lv_at hl 3 rfl) ?_
        refine lv_aload_n hx hb dX5_retype_55 rfl (lv_at hl 1 rfl) ?_
        refine va_get (D := D) (ci := 5) (v := .ref (a5 16)) (C := RX5) (T := TX5) (N := 30) hx hb hts in_X5_retype_X5 hown hK hP 0 rfl rfl 15 (by decide) (hts (.fieldLink RX5 41 "TermLoomModel" "typeAt" "[I") (by decide +kernel)) (fun _ h9 => h9) rfl dX5_retype_56 ?_
        refine lv_iload_n hx hb dX5_retype_59 rfl (lv_at hl 4 rfl) ?_
        by_cases hi : x3 < 0 ∨ 4200 ≤ (x3).toNatClampNeg
        · rw [if_pos hi] at h; exact no h
        rw [if_neg hi] at h
        refine va_iald (f := (q2.2 15)) hx hb hK hP 10 0 rfl rfl (i := x3) hi dX5_retype_60 ?_
        obtain ⟨q8, hq8, h⟩ := ob h
        refine mc_v (ws' := wX5 a5 cI cZ q8) (wr := ([] : va_W)) [0, 1, 2, 3, 4, 5, 6, 7, 8, 9, 10, 11, 12, 13, 14, 15, 16, 17, 18, 19, 20, 21, 22] [] [0, 1, 2, 3, 4, 5, 6, 7, 8, 9, 10, 11, 12, 13, 14, 15, 16, 17, 18, 19, 20, 21, 22] (va_runV (As := [.int x1, .int x2, .int (q2.2 15 (x3).toNatClampNeg)]) (rest := []) ⟨hx, hb, hml, hown, hts⟩ (c_X5_exchange l D cI cZ a5 N q2.2 x1 x2 (q2.2 15 (x3).toNatClampNeg) q8 hq8 H.size) (cwV 3 hts gX5_retype_X5_exchange rfl rfl rfl (by decide +kernel) ⟨Nat.le_of_ble_eq_true rfl, Nat.le_of_ble_eq_true rfl⟩) (pV [0, 1, 2, 3, 4, 5, 6, 7, 8, 9, 10, 11, 12, 13, 14, 15, 16, 17, 18, 19, 20, 21, 22] hP hD hK hN rfl rfl rfl rfl) rfl rfl hl.1 rfl (lv_room (Nat.le_of_ble_eq_true rfl)) dX5_retype_61 ⟨Nat.le_of_ble_eq_true rfl, Nat.le_of_ble_eq_true rfl⟩) hP hD hS hA rfl rfl rfl (by decide) rfl rfl (fun H locs hP hD hS => ?_)
        refine lv_iconst (v := 1) hx hb dX5_retype_64 rfl ?_
        refine lv_istore (lv' := [(5, .int 1), (4, .int (q2.2 5 0)), (0, .ref (a5 0)), (1, .int x1), (2, .int x2), (3, .int x3)]) hx hb dX5_retype_65 hl (by decide) rfl (fun ls hl => ?_)
        refine lv_aload_n hx hb dX5_retype_67 rfl (lv_at hl 2 rfl) ?_
        refine va_get (D := D) (ci := 5) (v := .ref (a5 20)) (C := RX5) (T := TX5) (N := 30) hx hb hts in_X5_retype_X5 hown hK hP 0 rfl rfl 19 (by decide) (hts (.fieldLink RX5 51 "TermLoomModel" "begin" "[I") (by decide +kernel)) (fun _ h9 => h9) rfl dX5_retype_68 ?_
        refine lv_aload_n hx hb dX5_retype_71 rfl (lv_at hl 2 rfl) ?_
        refine va_get (D := D) (ci := 5) (v := .int (q8 18 0)) (C := RX5) (T := TX5) (N := 30) hx hb hts in_X5_retype_X5 hown hK hP 0 rfl rfl 18 (by decide) (hts (.fieldLink RX5 130 "TermLoomModel" "terms" "I") (by decide +kernel)) (fun _ h9 => h9) rfl dX5_retype_72 ?_
        by_cases hi : (q8 18 0) < 0 ∨ 4201 ≤ ((q8 18 0)).toNatClampNeg
        · rw [if_pos hi] at h; exact no h
        rw [if_neg hi] at h
        refine va_iald (f := (q8 19)) hx hb hK hP 13 0 rfl rfl (i := (q8 18 0)) hi dX5_retype_75 ?_
        refine lv_istore (lv' := [(6, .int (q8 19 ((q8 18 0)).toNatClampNeg)), (5, .int 1), (4, .int (q2.2 5 0)), (0, .ref (a5 0)), (1, .int x1), (2, .int x2), (3, .int x3)]) hx hb dX5_retype_76 hl (by decide) rfl (fun ls hl => ?_)
        refine lv_aload_n hx hb dX5_retype_78 rfl (lv_at hl 3 rfl) ?_
        refine va_get (D := D) (ci := 5) (v := .ref (a5 20)) (C := RX5) (T := TX5) (N := 30) hx hb hts in_X5_retype_X5 hown hK hP 0 rfl rfl 19 (by decide) (hts (.fieldLink RX5 51 "TermLoomModel" "begin" "[I") (by decide +kernel)) (fun _ h9 => h9) rfl dX5_retype_79 ?_
        refine lv_iload_n hx hb dX5_retype_82 rfl (lv_at hl 4 rfl) ?_
        by_cases hi : x1 < 0 ∨ 4201 ≤ (x1).toNatClampNeg
        · rw [if_pos hi] at h; exact no h
        rw [if_neg hi] at h
        refine va_iald (f := (q8 19)) hx hb hK hP 13 0 rfl rfl (i := x1) hi dX5_retype_83 ?_
        refine lv_istore (lv' := [(7, .int (q8 19 (x1).toNatClampNeg)), (6, .int (q8 19 ((q8 18 0)).toNatClampNeg)), (5, .int 1), (4, .int (q2.2 5 0)), (0, .ref (a5 0)), (1, .int x1), (2, .int x2), (3, .int x3)]) hx hb dX5_retype_84 hl (by decide) rfl (fun ls hl => ?_)
        exact k_X5_retype_86 C0 N N q8 x1 (q2.2 5 0) 1 (q8 19 ((q8 18 0)).toNatClampNeg) (q8 19 (x1).toNatClampNeg) _ _ _ hP hD hS (lv_sub hl [4, 5, 3, 2, 1, 0] rfl) h
      · rw [if_neg hc7] at h
        refine lv_aload_n hx hb dX5_retype_40 rfl (lv_at hl 0 rfl) ?_
        refine lv_iconst (v := 2) hx hb dX5_retype_41 rfl ?_
        obtain ⟨q9, hq9, h⟩ := ob h
        refine mc_i (ws' := wX5 a5 cI cZ q9.2) (wr := ([] : va_W)) [0, 1, 2, 3, 4, 5, 6, 7, 8, 9, 10, 11, 12, 13, 14, 15, 16, 17, 18, 19, 20, 21, 22] [] [0, 1, 2, 3, 4, 5, 6, 7, 8, 9, 10, 11, 12, 13, 14, 15, 16, 17, 18, 19, 20, 21, 22] (va_runV (As := [.int 2]) (rest := []) ⟨hx, hb, hml, hown, hts⟩ (c_X5_fail l D cI cZ a5 N q2.2 2 q9.1 q9.2 hq9 H.size) (cwV 1 hts gX5_retype_X5_fail rfl rfl rfl (by decide +kernel) ⟨Nat.le_of_ble_eq_true rfl, Nat.le_of_ble_eq_true rfl⟩) (pV [0, 1, 2, 3, 4, 5, 6, 7, 8, 9, 10, 11, 12, 13, 14, 15, 16, 17, 18, 19, 20, 21, 22] hP hD hK hN rfl rfl rfl rfl) rfl rfl hl.1 rfl (lv_room (Nat.le_of_ble_eq_true rfl)) dX5_retype_42 ⟨Nat.le_of_ble_eq_true rfl, Nat.le_of_ble_eq_true rfl⟩) hP hD hS hA rfl rfl rfl (by decide) rfl rfl (fun H locs hP hD hS => ?_)
        obtain ⟨rfl, rfl⟩ := so h
        exact ret_i C0 hP hD hS dX5_retype_45
    · rw [if_neg hc5] at h
      exact k_X5_retype_24 C0 N q2.2 _ _ _ hP hD hS (lv_sub hl [0] rfl) h

theorem in_X5_typeOf_X5 : ∀ w ∈ u_ws RX5 TX5 30, w ∈ wsX5_typeOf := by decide +kernel
def f_X5_typeOf_38 (N : Nat) (σ : St) (s0 : Int32) : Option (Int32 × St) := some (s0, σ)
def f_X5_typeOf_14 (N : Nat) (σ : St) (x1 s1 : Int32) : Option (Int32 × St) := bnd (up2 σ 0 0 s1) (fun σ1 => if (σ1 0 0) ≤ 0 then (f_X5_topType N σ1 x1).bind (fun q3 => (f_X5_keepType N q3.2 q3.1 2).bind (fun q4 => f_X5_typeOf_38 N q4.2 q4.1)) else f_X5_typeOf_38 N σ1 0)
def f_X5_typeOf (N : Nat) (σ : St) (x1 : Int32) : Option (Int32 × St) := (f_X5_isTerm N σ x1).bind (fun q1 => if q1.1 = 0 then f_X5_typeOf_14 N q1.2 x1 1 else f_X5_typeOf_14 N q1.2 x1 0)
abbrev KP_X5_typeOf_38 (p : Program) (l : Launch) (e : Env) (s : State) (m : MethodId) (args : Array Value) (below : List Frame) (meth : Method) (c : Code) (D : va_G) (cI cZ : ClassId) (a5 : Nat → Nat) (A : Nat → Prop) (r : Int32) (u1 : St) (K : St → Int32 → Option (Int32 × St)) : Prop := ∀ (σ : St) (s0 : Int32) (H : Heap) (locs : List Loc) (ls : Array Slot), va_P D vwCl (wX5 a5 cI cZ σ) H → va_D A (wX5 a5 cI cZ σ) → va_S A s.heap H locs → lv_has ls 2 [] → K σ s0 = some (r, u1) → W p l e ({ frames := 2, cells := 0, slots := 0, locals := 43 } : Room) s m args below meth c H locs 0 0 (QI below args s D cI cZ (wX5 a5 cI cZ) A r u1) (F0 m 38 ls [.int s0])
abbrev KP_X5_typeOf_14 (p : Program) (l : Launch) (e : Env) (s : State) (m : MethodId) (args : Array Value) (below : List Frame) (meth : Method) (c : Code) (D : va_G) (cI cZ : ClassId) (a5 : Nat → Nat) (A : Nat → Prop) (r : Int32) (u1 : St) (K : St → Int32 → Int32 → Option (Int32 × St)) : Prop := ∀ (σ : St) (x1 s1 : Int32) (H : Heap) (locs : List Loc) (ls : Array Slot), va_P D vwCl (wX5 a5 cI cZ σ) H → va_D A (wX5 a5 cI cZ σ) → va_S A s.heap H locs → lv_has ls 2 [(0, .ref (a5 0)), (1, .int x1)] → K σ x1 s1 = some (r, u1) → W p l e ({ frames := 2, cells := 0, slots := 0, locals := 43 } : Room) s m args below meth c H locs 0 0 (QI below args s D cI cZ (wX5 a5 cI cZ) A r u1) (F0 m 14 ls [.int s1, .ref (a5 0)])
set_option maxHeartbeats 4000000 in
set_option maxRecDepth 100000 in
theorem k_X5_typeOf_38 {p : Program} {l : Launch} {e : Env} {s : State} {m : MethodId} {args : Array Value} {below : List Frame} {meth : Method} {c : Code} {D : va_G} {cI cZ : ClassId} {a5 : Nat → Nat} {A : Nat → Prop} {r : Int32} {u1 : St} (C0 : mB p s m args meth c D cI cZ A cX5_typeOf 2 (some .int) wsX5_typeOf RX5) (N : Nat) : KP_X5_typeOf_38 p l e s m args below meth c D cI cZ a5 A r u1 (f_X5_typeOf_38 N) := by
  obtain ⟨hx, hb, hml, hr, hown, hts, hlocks, hA, hK, hN⟩ := id C0
  intro σ s0 H locs ls hP hD hS hl h
  unfold f_X5_typeOf_38 at h
  obtain ⟨rfl, rfl⟩ := so h
  exact ret_i C0 hP hD hS dX5_typeOf_38
set_option maxHeartbeats 4000000 in
set_option maxRecDepth 100000 in
theorem k_X5_typeOf_14 {p : Program} {l : Launch} {e : Env} {s : State} {m : MethodId} {args : Array Value} {below : List Frame} {meth : Method} {c : Code} {D : va_G} {cI cZ : ClassId} {a5 : Nat → Nat} {A : Nat → Prop} {r : Int32} {u1 : St} (C0 : mB p s m args meth c D cI cZ A cX5_typeOf 2 (some .int) wsX5_typeOf RX5) (N : Nat) : KP_X5_typeOf_14 p l e s m args below meth c D cI cZ a5 A r u1 (f_X5_typeOf_14 N) := by
  obtain ⟨hx, hb, hml, hr, hown, hts, hlocks, hA, hK, hN⟩ := id C0
  intro σ x1 s1 H locs ls hP hD hS hl h
  unfold f_X5_typeOf_14 at h
  refine va_put (D := D) (ci := 5) (v := .int s1) (ty := .int) (C := RX5) (T := TX5) (N := 30) hx hb hts in_X5_typeOf_X5 tyX5 tyX5_ok nmX5 hown hK hP hD hS 0 rfl rfl 0 (by decide) (hts (.fieldLink RX5 85 "TermLoomModel" "code" "I") (by decide +kernel)) (fun _ h9 => h9) rfl (by decide +kernel) rfl rfl (Nat.le_of_ble_eq_true rfl) dX5_typeOf_14 (fun H locs hP hD hS => ?_)
  obtain ⟨σ1, eσ1, h⟩ := bn h
  have hP : va_P D vwCl (wX5 a5 cI cZ σ1) H := by rw [eσ1]; exact hP
  have hD : va_D A (wX5 a5 cI cZ σ1) := by rw [eσ1]; exact hD
  refine lv_aload_n hx hb dX5_typeOf_17 rfl (lv_at hl 0 rfl) ?_
  refine va_get (D := D) (ci := 5) (v := .int (σ1 0 0)) (C := RX5) (T := TX5) (N := 30) hx hb hts in_X5_typeOf_X5 hown hK hP 0 rfl rfl 0 (by decide) (hts (.fieldLink RX5 85 "TermLoomModel" "code" "I") (by decide +kernel)) (fun _ h9 => h9) rfl dX5_typeOf_18 ?_
  refine lv_if_le (tgt := 28) hx hb dX5_typeOf_21 (by decide) (fun hc2 => ?_) (fun hc2 => ?_)
  · rw [if_pos hc2] at h
    refine lv_aload_n hx hb dX5_typeOf_28 rfl (lv_at hl 0 rfl) ?_
    refine lv_aload_n hx hb dX5_typeOf_29 rfl (lv_at hl 0 rfl) ?_
    refine lv_iload_n hx hb dX5_typeOf_30 rfl (lv_at hl 1 rfl) ?_
    obtain ⟨q3, hq3, h⟩ := ob h
    refine mc_i (ws' := wX5 a5 cI cZ q3.2) (wr := ([] : va_W)) [0, 1, 2, 3, 4, 5, 6, 7, 8, 9, 10, 11, 12, 13, 14, 15, 16, 17, 18, 19, 20, 21, 22] [] [0, 1, 2, 3, 4, 5, 6, 7, 8, 9, 10, 11, 12, 13, 14, 15, 16, 17, 18, 19, 20, 21, 22] (va_runV (As := [.int x1]) (rest := [.ref (a5 0)]) ⟨hx, hb, hml, hown, hts⟩ (c_X5_topType l D cI cZ a5 N σ1 x1 q3.1 q3.2 hq3 H.size) (cwV 1 hts gX5_typeOf_X5_topType rfl rfl rfl (by decide +kernel) ⟨Nat.le_of_ble_eq_true rfl, Nat.le_of_ble_eq_true rfl⟩) (pV [0, 1, 2, 3, 4, 5, 6, 7, 8, 9, 10, 11, 12, 13, 14, 15, 16, 17, 18, 19, 20, 21, 22] hP hD hK hN rfl rfl rfl rfl) rfl rfl hl.1 rfl (lv_room (Nat.le_of_ble_eq_true rfl)) dX5_typeOf_31 ⟨Nat.le_of_ble_eq_true rfl, Nat.le_of_ble_eq_true rfl⟩) hP hD hS hA rfl rfl rfl (by decide) rfl rfl (fun H locs hP hD hS => ?_)
    refine lv_iconst (v := 2) hx hb dX5_typeOf_34 rfl ?_
    obtain ⟨q4, hq4, h⟩ := ob h
    refine mc_i (ws' := wX5 a5 cI cZ q4.2) (wr := ([] : va_W)) [0, 1, 2, 3, 4, 5, 6, 7, 8, 9, 10, 11, 12, 13, 14, 15, 16, 17, 18, 19, 20, 21, 22] [] [0, 1, 2, 3, 4, 5, 6, 7, 8, 9, 10, 11, 12, 13, 14, 15, 16, 17, 18, 19, 20, 21, 22] (va_runV (As := [.int q3.1, .int 2]) (rest := []) ⟨hx, hb, hml, hown, hts⟩ (c_X5_keepType l D cI cZ a5 N q3.2 q3.1 2 q4.1 q4.2 hq4 H.size) (cwV 2 hts gX5_typeOf_X5_keepType rfl rfl rfl (by decide +kernel) ⟨Nat.le_of_ble_eq_true rfl, Nat.le_of_ble_eq_true rfl⟩) (pV [0, 1, 2, 3, 4, 5, 6, 7, 8, 9, 10, 11, 12, 13, 14, 15, 16, 17, 18, 19, 20, 21, 22] hP hD hK hN rfl rfl rfl rfl) rfl rfl hl.1 rfl (lv_room (Nat.le_of_ble_eq_true rfl)) dX5_typeOf_35 ⟨Nat.le_of_ble_eq_true rfl, Nat.le_of_ble_eq_true rfl⟩) hP hD hS hA rfl rfl rfl (by decide) rfl rfl (fun H locs hP hD hS => ?_)
    exact k_X5_typeOf_38 C0 N q4.2 q4.1 _ _ _ hP hD hS (lv_sub hl [] rfl) h
  · rw [if_neg hc2] at h
    refine lv_iconst (v := 0) hx hb dX5_typeOf_24 rfl ?_
    refine lv_goto (tgt := 38) hx hb dX5_typeOf_25 (by decide) ?_
    exact k_X5_typeOf_38 C0 N σ1 0 _ _ _ hP hD hS (lv_sub hl [] rfl) h
set_option maxHeartbeats 4000000 in
set_option maxRecDepth 100000 in
theorem c_X5_typeOf (l : Launch) (D : va_G) (cI cZ : ClassId) (a5 : Nat → Nat) (N : Nat) (σ : St) (x1 : Int32) : MI l yX5_typeOf wsX5_typeOf ({ frames := 2, cells := 0, slots := 0, locals := 43 } : Room) D cI cZ (wX5 a5 cI cZ) [.ref (a5 0), .int x1] σ (f_X5_typeOf N σ x1) := by
  refine MI.of (cc := cX5_typeOf) (maxL := 2) (ret := (some .int)) (own := RX5) (by decide) rfl rfl (Nat.le_of_ble_eq_true rfl) ?_
  intro r u1 h p e s m args below meth c A C0 H locs ls hP hD hS hl
  obtain ⟨hx, hb, hml, hr, hown, hts, hlocks, hA, hK, hN⟩ := id C0
  have hl : lv_has ls 2 [(0, .ref (a5 0)), (1, .int x1)] := hl
  unfold f_X5_typeOf at h
  refine lv_aload_n hx hb dX5_typeOf_0 rfl (lv_at hl 0 rfl) ?_
  refine lv_aload_n hx hb dX5_typeOf_1 rfl (lv_at hl 0 rfl) ?_
  refine lv_iload_n hx hb dX5_typeOf_2 rfl (lv_at hl 1 rfl) ?_
  obtain ⟨q1, hq1, h⟩ := ob h
  refine mc_i (ws' := wX5 a5 cI cZ q1.2) (wr := ([] : va_W)) [0, 1, 2, 3, 4, 5, 6, 7, 8, 9, 10, 11, 12, 13, 14, 15, 16, 17, 18, 19, 20, 21, 22] [] [0, 1, 2, 3, 4, 5, 6, 7, 8, 9, 10, 11, 12, 13, 14, 15, 16, 17, 18, 19, 20, 21, 22] (va_runV (As := [.int x1]) (rest := [.ref (a5 0)]) ⟨hx, hb, hml, hown, hts⟩ (c_X5_isTerm l D cI cZ a5 N σ x1 q1.1 q1.2 hq1 H.size) (cwV 1 hts gX5_typeOf_X5_isTerm rfl rfl rfl (by decide +kernel) ⟨Nat.le_of_ble_eq_true rfl, Nat.le_of_ble_eq_true rfl⟩) (pV [0, 1, 2, 3, 4, 5, 6, 7, 8, 9, 10, 11, 12, 13, 14, 15, 16, 17, 18, 19, 20, 21, 22] hP hD hK hN rfl rfl rfl rfl) rfl rfl hl.1 rfl (lv_room (Nat.le_of_ble_eq_true rfl)) dX5_typeOf_3 ⟨Nat.le_of_ble_eq_true rfl, Nat.le_of_ble_eq_true rfl⟩) hP hD hS hA rfl rfl rfl (by decide) rfl rfl (fun H locs hP hD hS => ?_)
  refine lv_if_eq (tgt := 13) hx hb dX5_typeOf_6 (by decide) (fun hc2 => ?_) (fun hc2 => ?_)
  · rw [if_pos hc2] at h
    refine lv_iconst (v := 1) hx hb dX5_typeOf_13 rfl ?_
    exact k_X5_typeOf_14 C0 N q1.2 x1 1 _ _ _ hP hD hS (lv_sub hl [0, 1] rfl) h
  · rw [if_neg hc2] at h
    refine lv_iconst (v := 0) hx hb dX5_typeOf_9 rfl ?_
    refine lv_goto (tgt := 14) hx hb dX5_typeOf_10 (by decide) ?_
    exact k_X5_typeOf_14 C0 N q1.2 x1 0 _ _ _ hP hD hS (lv_sub hl [0, 1] rfl) h
