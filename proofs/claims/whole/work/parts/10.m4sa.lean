def f_X4_read_17 (N : Nat) (n : Nat) (g : Nat → Int32) (s0 : Int32) : Option (Int32 × Unit) := some (s0, ())
def f_X4_read_16 (N : Nat) (n : Nat) (g : Nat → Int32) : Option (Int32 × Unit) := f_X4_read_17 N n g (-1)
def f_X4_read (N : Nat) (n : Nat) (g : Nat → Int32) (x1 : Int32) : Option (Int32 × Unit) := if x1 < 0 then f_X4_read_16 N n g else if (Int32.ofNat n) ≤ x1 then f_X4_read_16 N n g else if x1 < 0 ∨ n ≤ (x1).toNatClampNeg then none else f_X4_read_17 N n g (g (x1).toNatClampNeg)
abbrev KP_X4_read_17 (p : Program) (l : Launch) (e : Env) (s : State) (m : MethodId) (args : Array Value) (below : List Frame) (meth : Method) (c : Code) (D : va_G) (cI cZ : ClassId) (q n : Nat) (g : Nat → Int32) (A : Nat → Prop) (r : Int32) (u1 : Unit) (K : Int32 → Option (Int32 × Unit)) : Prop := ∀ (s0 : Int32) (H : Heap) (locs : List Loc) (ls : Array Slot), va_P D vwCl (wAr q n cI g ()) H → va_D A (wAr q n cI g ()) → va_S A s.heap H locs → lv_has ls 2 [] → K s0 = some (r, u1) → W p l e ({ frames := 0, cells := 0, slots := 0, locals := 0 } : Room) s m args below meth c H locs 0 0 (QI below args s D cI cZ (wAr q n cI g) A r u1) (F0 m 17 ls [.int s0])
abbrev KP_X4_read_16 (p : Program) (l : Launch) (e : Env) (s : State) (m : MethodId) (args : Array Value) (below : List Frame) (meth : Method) (c : Code) (D : va_G) (cI cZ : ClassId) (q n : Nat) (g : Nat → Int32) (A : Nat → Prop) (r : Int32) (u1 : Unit) (K : Option (Int32 × Unit)) : Prop := ∀ (H : Heap) (locs : List Loc) (ls : Array Slot), va_P D vwCl (wAr q n cI g ()) H → va_D A (wAr q n cI g ()) → va_S A s.heap H locs → lv_has ls 2 [] → K = some (r, u1) → W p l e ({ frames := 0, cells := 0, slots := 0, locals := 0 } : Room) s m args below meth c H locs 0 0 (QI below args s D cI cZ (wAr q n cI g) A r u1) (F0 m 16 ls [])
set_option maxHeartbeats 4000000 in
set_option maxRecDepth 100000 in
theorem k_X4_read_17 {p : Program} {l : Launch} {e : Env} {s : State} {m : MethodId} {args : Array Value} {below : List Frame} {meth : Method} {c : Code} {D : va_G} {cI cZ : ClassId} {q n : Nat} {g : Nat → Int32} {A : Nat → Prop} {r : Int32} {u1 : Unit} (C0 : mB p s m args meth c D cI cZ A cX4_read 2 (some .int) wsX4_read RX4) (N : Nat) : KP_X4_read_17 p l e s m args below meth c D cI cZ q n g A r u1 (f_X4_read_17 N n g) := by
  obtain ⟨hx, hb, hml, hr, hown, hts, hlocks, hA, hK, hN⟩ := id C0
  intro s0 H locs ls hP hD hS hl h
  unfold f_X4_read_17 at h
  obtain ⟨rfl, rfl⟩ := so h
  exact ret_i C0 hP hD hS dX4_read_17
set_option maxHeartbeats 4000000 in
set_option maxRecDepth 100000 in
theorem k_X4_read_16 {p : Program} {l : Launch} {e : Env} {s : State} {m : MethodId} {args : Array Value} {below : List Frame} {meth : Method} {c : Code} {D : va_G} {cI cZ : ClassId} {q n : Nat} {g : Nat → Int32} {A : Nat → Prop} {r : Int32} {u1 : Unit} (C0 : mB p s m args meth c D cI cZ A cX4_read 2 (some .int) wsX4_read RX4) (N : Nat) : KP_X4_read_16 p l e s m args below meth c D cI cZ q n g A r u1 (f_X4_read_16 N n g) := by
  obtain ⟨hx, hb, hml, hr, hown, hts, hlocks, hA, hK, hN⟩ := id C0
  intro H locs ls hP hD hS hl h
  unfold f_X4_read_16 at h
  refine lv_iconst (v := (-1)) hx hb dX4_read_16 rfl ?_
  exact k_X4_read_17 C0 N (-1) _ _ _ hP hD hS (lv_sub hl [] rfl) h
set_option maxHeartbeats 4000000 in
set_option maxRecDepth 100000 in
theorem c_X4_read (l : Launch) (D : va_G) (cI cZ : ClassId) (q n : Nat) (g : Nat → Int32) (N : Nat) (x1 : Int32) : MI l yX4_read wsX4_read ({ frames := 0, cells := 0, slots := 0, locals := 0 } : Room) D cI cZ (wAr q n cI g) [.ref (q), .int x1] () (f_X4_read N n g x1) := by
  refine MI.of (cc := cX4_read) (maxL := 2) (ret := (some .int)) (own := RX4) (by decide) rfl rfl (Nat.le_of_ble_eq_true rfl) ?_
  intro r u1 h p e s m args below meth c A C0 H locs ls hP hD hS hl
  obtain ⟨hx, hb, hml, hr, hown, hts, hlocks, hA, hK, hN⟩ := id C0
  have hl : lv_has ls 2 [(0, .ref (q)), (1, .int x1)] := hl
  unfold f_X4_read at h
  refine lv_iload_n hx hb dX4_read_0 rfl (lv_at hl 1 rfl) ?_
  refine lv_if_lt (tgt := 16) hx hb dX4_read_1 (by decide) (fun hc1 => ?_) (fun hc1 => ?_)
  · rw [if_pos hc1] at h
    exact k_X4_read_16 C0 N _ _ _ hP hD hS (lv_sub hl [] rfl) h
  · rw [if_neg hc1] at h
    refine lv_iload_n hx hb dX4_read_4 rfl (lv_at hl 1 rfl) ?_
    refine lv_aload_n hx hb dX4_read_5 rfl (lv_at hl 0 rfl) ?_
    refine va_alen (v := Int32.ofNat n) hx hb hK hP 0 0 rfl rfl rfl dX4_read_6 ?_
    refine lv_icmp_ge (tgt := 16) hx hb dX4_read_7 (by decide) (fun hc2 => ?_) (fun hc2 => ?_)
    · rw [if_pos hc2] at h
      exact k_X4_read_16 C0 N _ _ _ hP hD hS (lv_sub hl [] rfl) h
    · rw [if_neg hc2] at h
      refine lv_aload_n hx hb dX4_read_10 rfl (lv_at hl 0 rfl) ?_
      refine lv_iload_n hx hb dX4_read_11 rfl (lv_at hl 1 rfl) ?_
      by_cases hi : x1 < 0 ∨ n ≤ (x1).toNatClampNeg
      · rw [if_pos hi] at h; exact no h
      rw [if_neg hi] at h
      refine va_iald (f := g) hx hb hK hP 0 0 rfl rfl (i := x1) hi dX4_read_12 ?_
      refine lv_goto (tgt := 17) hx hb dX4_read_13 (by decide) ?_
      exact k_X4_read_17 C0 N (g (x1).toNatClampNeg) _ _ _ hP hD hS (lv_sub hl [] rfl) h

def f_X4_codeOf (N : Nat) (x0 x1 : Int32) : Option (Int32 × Unit) := some (((4 * x1) + x0), ())
set_option maxHeartbeats 4000000 in
set_option maxRecDepth 100000 in
theorem c_X4_codeOf (l : Launch) (D : va_G) (cI cZ : ClassId)  (N : Nat) (x0 x1 : Int32) : MI l yX4_codeOf wsX4_codeOf ({ frames := 0, cells := 0, slots := 0, locals := 0 } : Room) D cI cZ (wNo) [.int x0, .int x1] () (f_X4_codeOf N x0 x1) := by
  refine MI.of (cc := cX4_codeOf) (maxL := 2) (ret := (some .int)) (own := RX4) (by decide) rfl rfl (Nat.le_of_ble_eq_true rfl) ?_
  intro r u1 h p e s m args below meth c A C0 H locs ls hP hD hS hl
  obtain ⟨hx, hb, hml, hr, hown, hts, hlocks, hA, hK, hN⟩ := id C0
  have hl : lv_has ls 2 [(0, .int x0), (1, .int x1)] := hl
  unfold f_X4_codeOf at h
  refine lv_iconst (v := 4) hx hb dX4_codeOf_0 rfl ?_
  refine lv_iload_n hx hb dX4_codeOf_1 rfl (lv_at hl 1 rfl) ?_
  refine lv_imul hx hb dX4_codeOf_2 ?_
  refine lv_iload_n hx hb dX4_codeOf_3 rfl (lv_at hl 0 rfl) ?_
  refine lv_iadd hx hb dX4_codeOf_4 ?_
  obtain ⟨rfl, rfl⟩ := so h
  exact ret_i C0 hP hD hS dX4_codeOf_5

def f_X4_numberOf (N : Nat) (x0 : Int32) : Option (Int32 × Unit) := some ((x0 >>> (2 &&& 31)), ())
set_option maxHeartbeats 4000000 in
set_option maxRecDepth 100000 in
theorem c_X4_numberOf (l : Launch) (D : va_G) (cI cZ : ClassId)  (N : Nat) (x0 : Int32) : MI l yX4_numberOf wsX4_numberOf ({ frames := 0, cells := 0, slots := 0, locals := 0 } : Room) D cI cZ (wNo) [.int x0] () (f_X4_numberOf N x0) := by
  refine MI.of (cc := cX4_numberOf) (maxL := 1) (ret := (some .int)) (own := RX4) (by decide) rfl rfl (Nat.le_of_ble_eq_true rfl) ?_
  intro r u1 h p e s m args below meth c A C0 H locs ls hP hD hS hl
  obtain ⟨hx, hb, hml, hr, hown, hts, hlocks, hA, hK, hN⟩ := id C0
  have hl : lv_has ls 1 [(0, .int x0)] := hl
  unfold f_X4_numberOf at h
  refine lv_iload_n hx hb dX4_numberOf_0 rfl (lv_at hl 0 rfl) ?_
  refine lv_iconst (v := 2) hx hb dX4_numberOf_1 rfl ?_
  refine lv_ishr hx hb dX4_numberOf_2 ?_
  obtain ⟨rfl, rfl⟩ := so h
  exact ret_i C0 hP hD hS dX4_numberOf_3

def f_X4_isOf_16 (N : Nat) (s0 : Int32) : Option (Int32 × Unit) := if s0 = 0 ∨ s0 = 1 then some (s0, ()) else none
def f_X4_isOf_15 (N : Nat) : Option (Int32 × Unit) := f_X4_isOf_16 N 0
def f_X4_isOf (N : Nat) (x0 x1 : Int32) : Option (Int32 × Unit) := if x1 < 0 then f_X4_isOf_15 N else if (x1 &&& 3) = x0 then f_X4_isOf_16 N 1 else f_X4_isOf_15 N
abbrev KP_X4_isOf_16 (p : Program) (l : Launch) (e : Env) (s : State) (m : MethodId) (args : Array Value) (below : List Frame) (meth : Method) (c : Code) (D : va_G) (cI cZ : ClassId)  (A : Nat → Prop) (r : Int32) (u1 : Unit) (K : Int32 → Option (Int32 × Unit)) : Prop := ∀ (s0 : Int32) (H : Heap) (locs : List Loc) (ls : Array Slot), va_P D vwCl (wNo ()) H → va_D A (wNo ()) → va_S A s.heap H locs → lv_has ls 2 [] → K s0 = some (r, u1) → W p l e ({ frames := 0, cells := 0, slots := 0, locals := 0 } : Room) s m args below meth c H locs 0 0 (QI below args s D cI cZ (wNo) A r u1) (F0 m 16 ls [.int s0])
abbrev KP_X4_isOf_15 (p : Program) (l : Launch) (e : Env) (s : State) (m : MethodId) (args : Array Value) (below : List Frame) (meth : Method) (c : Code) (D : va_G) (cI cZ : ClassId)  (A : Nat → Prop) (r : Int32) (u1 : Unit) (K : Option (Int32 × Unit)) : Prop := ∀ (H : Heap) (locs : List Loc) (ls : Array Slot), va_P D vwCl (wNo ()) H → va_D A (wNo ()) → va_S A s.heap H locs → lv_has ls 2 [] → K = some (r, u1) → W p l e ({ frames := 0, cells := 0, slots := 0, locals := 0 } : Room) s m args below meth c H locs 0 0 (QI below args s D cI cZ (wNo) A r u1) (F0 m 15 ls [])
set_option maxHeartbeats 4000000 in
set_option maxRecDepth 100000 in
theorem k_X4_isOf_16 {p : Program} {l : Launch} {e : Env} {s : State} {m : MethodId} {args : Array Value} {below : List Frame} {meth : Method} {c : Code} {D : va_G} {cI cZ : ClassId}  {A : Nat → Prop} {r : Int32} {u1 : Unit} (C0 : mB p s m args meth c D cI cZ A cX4_isOf 2 (some .boolean) wsX4_isOf RX4) (N : Nat) : KP_X4_isOf_16 p l e s m args below meth c D cI cZ  A r u1 (f_X4_isOf_16 N) := by
  obtain ⟨hx, hb, hml, hr, hown, hts, hlocks, hA, hK, hN⟩ := id C0
  intro s0 H locs ls hP hD hS hl h
  unfold f_X4_isOf_16 at h
  by_cases hz : s0 = 0 ∨ s0 = 1
  · rw [if_pos hz] at h
    obtain ⟨rfl, rfl⟩ := so h
    exact ret_z C0 hz hP hD hS dX4_isOf_16
  · rw [if_neg hz] at h; exact no h
set_option maxHeartbeats 4000000 in
set_option maxRecDepth 100000 in
theorem k_X4_isOf_15 {p : Program} {l : Launch} {e : Env} {s : State} {m : MethodId} {args : Array Value} {below : List Frame} {meth : Method} {c : Code} {D : va_G} {cI cZ : ClassId}  {A : Nat → Prop} {r : Int32} {u1 : Unit} (C0 : mB p s m args meth c D cI cZ A cX4_isOf 2 (some .boolean) wsX4_isOf RX4) (N : Nat) : KP_X4_isOf_15 p l e s m args below meth c D cI cZ  A r u1 (f_X4_isOf_15 N) := by
  obtain ⟨hx, hb, hml, hr, hown, hts, hlocks, hA, hK, hN⟩ := id C0
  intro H locs ls hP hD hS hl h
  unfold f_X4_isOf_15 at h
  refine lv_iconst (v := 0) hx hb dX4_isOf_15 rfl ?_
  exact k_X4_isOf_16 C0 N 0 _ _ _ hP hD hS (lv_sub hl [] rfl) h
set_option maxHeartbeats 4000000 in
set_option maxRecDepth 100000 in
theorem c_X4_isOf (l : Launch) (D : va_G) (cI cZ : ClassId)  (N : Nat) (x0 x1 : Int32) : MI l yX4_isOf wsX4_isOf ({ frames := 0, cells := 0, slots := 0, locals := 0 } : Room) D cI cZ (wNo) [.int x0, .int x1] () (f_X4_isOf N x0 x1) := by
  refine MI.of (cc := cX4_isOf) (maxL := 2) (ret := (some .boolean)) (own := RX4) (by decide) rfl rfl (Nat.le_of_ble_eq_true rfl) ?_
  intro r u1 h p e s m args below meth c A C0 H locs ls hP hD hS hl
  obtain ⟨hx, hb, hml, hr, hown, hts, hlocks, hA, hK, hN⟩ := id C0
  have hl : lv_has ls 2 [(0, .int x0), (1, .int x1)] := hl
  unfold f_X4_isOf at h
  refine lv_iload_n hx hb dX4_isOf_0 rfl (lv_at hl 1 rfl) ?_
  refine lv_if_lt (tgt := 15) hx hb dX4_isOf_1 (by decide) (fun hc1 => ?_) (fun hc1 => ?_)
  · rw [if_pos hc1] at h
    exact k_X4_isOf_15 C0 N _ _ _ hP hD hS (lv_sub hl [] rfl) h
  · rw [if_neg hc1] at h
    refine lv_iload_n hx hb dX4_isOf_4 rfl (lv_at hl 1 rfl) ?_
    refine lv_iconst (v := 3) hx hb dX4_isOf_5 rfl ?_
    refine lv_iand hx hb dX4_isOf_6 ?_
    refine lv_iload_n hx hb dX4_isOf_7 rfl (lv_at hl 0 rfl) ?_
    refine lv_icmp_ne (tgt := 15) hx hb dX4_isOf_8 (by decide) (fun hc2 => ?_) (fun hc2 => ?_)
    · rw [if_neg hc2] at h
      exact k_X4_isOf_15 C0 N _ _ _ hP hD hS (lv_sub hl [] rfl) h
    · rw [if_pos hc2] at h
      refine lv_iconst (v := 1) hx hb dX4_isOf_11 rfl ?_
      refine lv_goto (tgt := 16) hx hb dX4_isOf_12 (by decide) ?_
      exact k_X4_isOf_16 C0 N 1 _ _ _ hP hD hS (lv_sub hl [] rfl) h

def f_X4_headOfVariable (N : Nat) (x0 : Int32) : Option (Int32 × Unit) := some (((-1) - x0), ())
set_option maxHeartbeats 4000000 in
set_option maxRecDepth 100000 in
theorem c_X4_headOfVariable (l : Launch) (D : va_G) (cI cZ : ClassId)  (N : Nat) (x0 : Int32) : MI l yX4_headOfVariable wsX4_headOfVariable ({ frames := 0, cells := 0, slots := 0, locals := 0 } : Room) D cI cZ (wNo) [.int x0] () (f_X4_headOfVariable N x0) := by
  refine MI.of (cc := cX4_headOfVariable) (maxL := 1) (ret := (some .int)) (own := RX4) (by decide) rfl rfl (Nat.le_of_ble_eq_true rfl) ?_
  intro r u1 h p e s m args below meth c A C0 H locs ls hP hD hS hl
  obtain ⟨hx, hb, hml, hr, hown, hts, hlocks, hA, hK, hN⟩ := id C0
  have hl : lv_has ls 1 [(0, .int x0)] := hl
  unfold f_X4_headOfVariable at h
  refine lv_iconst (v := (-1)) hx hb dX4_headOfVariable_0 rfl ?_
  refine lv_iload_n hx hb dX4_headOfVariable_1 rfl (lv_at hl 0 rfl) ?_
  refine lv_isub hx hb dX4_headOfVariable_2 ?_
  obtain ⟨rfl, rfl⟩ := so h
  exact ret_i C0 hP hD hS dX4_headOfVariable_3
