theorem in_X5_thrown_X5 : ∀ w ∈ u_ws RX5 TX5 30, w ∈ wsX5_thrown := by decide +kernel
def f_X5_thrown (N : Nat) (σ : St) : Option (Int32 × St) := some ((σ 0 0), σ)
set_option maxHeartbeats 4000000 in
set_option maxRecDepth 100000 in
theorem c_X5_thrown (l : Launch) (D : va_G) (cI cZ : ClassId) (a5 : Nat → Nat) (N : Nat) (σ : St) : MI l yX5_thrown wsX5_thrown ({ frames := 0, cells := 0, slots := 0, locals := 0 } : Room) D cI cZ (wX5 a5 cI cZ) [.ref (a5 0)] σ (f_X5_thrown N σ) := by
  refine MI.of (cc := cX5_thrown) (maxL := 1) (ret := (some .int)) (own := RX5) (by decide) rfl rfl (Nat.le_of_ble_eq_true rfl) ?_
  intro r u1 h p e s m args below meth c A C0 H locs ls hP hD hS hl
  obtain ⟨hx, hb, hml, hr, hown, hts, hlocks, hA, hK, hN⟩ := id C0
  have hl : lv_has ls 1 [(0, .ref (a5 0))] := hl
  unfold f_X5_thrown at h
  refine lv_aload_n hx hb dX5_thrown_0 rfl (lv_at hl 0 rfl) ?_
  refine va_get (D := D) (ci := 5) (v := .int (σ 0 0)) (C := RX5) (T := TX5) (N := 30) hx hb hts in_X5_thrown_X5 hown hK hP 0 rfl rfl 0 (by decide) (hts (.fieldLink RX5 85 "TermLoomModel" "code" "I") (by decide +kernel)) (fun _ h9 => h9) rfl dX5_thrown_1 ?_
  obtain ⟨rfl, rfl⟩ := so h
  exact ret_i C0 hP hD hS dX5_thrown_4

theorem in_X5_fail_X5 : ∀ w ∈ u_ws RX5 TX5 30, w ∈ wsX5_fail := by decide +kernel
def f_X5_fail (N : Nat) (σ : St) (x1 : Int32) : Option (Int32 × St) := bnd (up2 σ 0 0 x1) (fun σ1 => some (0, σ1))
set_option maxHeartbeats 4000000 in
set_option maxRecDepth 100000 in
theorem c_X5_fail (l : Launch) (D : va_G) (cI cZ : ClassId) (a5 : Nat → Nat) (N : Nat) (σ : St) (x1 : Int32) : MI l yX5_fail wsX5_fail ({ frames := 0, cells := 0, slots := 0, locals := 0 } : Room) D cI cZ (wX5 a5 cI cZ) [.ref (a5 0), .int x1] σ (f_X5_fail N σ x1) := by
  refine MI.of (cc := cX5_fail) (maxL := 2) (ret := (some .int)) (own := RX5) (by decide) rfl rfl (Nat.le_of_ble_eq_true rfl) ?_
  intro r u1 h p e s m args below meth c A C0 H locs ls hP hD hS hl
  obtain ⟨hx, hb, hml, hr, hown, hts, hlocks, hA, hK, hN⟩ := id C0
  have hl : lv_has ls 2 [(0, .ref (a5 0)), (1, .int x1)] := hl
  unfold f_X5_fail at h
  refine lv_aload_n hx hb dX5_fail_0 rfl (lv_at hl 0 rfl) ?_
  refine lv_iload_n hx hb dX5_fail_1 rfl (lv_at hl 1 rfl) ?_
  refine va_put (D := D) (ci := 5) (v := .int x1) (ty := .int) (C := RX5) (T := TX5) (N := 30) hx hb hts in_X5_fail_X5 tyX5 tyX5_ok nmX5 hown hK hP hD hS 0 rfl rfl 0 (by decide) (hts (.fieldLink RX5 85 "TermLoomModel" "code" "I") (by decide +kernel)) (fun _ h9 => h9) rfl (by decide +kernel) rfl rfl (Nat.le_of_ble_eq_true rfl) dX5_fail_2 (fun H locs hP hD hS => ?_)
  obtain ⟨σ1, eσ1, h⟩ := bn h
  have hP : va_P D vwCl (wX5 a5 cI cZ σ1) H := by rw [eσ1]; exact hP
  have hD : va_D A (wX5 a5 cI cZ σ1) := by rw [eσ1]; exact hD
  refine lv_iconst (v := 0) hx hb dX5_fail_5 rfl ?_
  obtain ⟨rfl, rfl⟩ := so h
  exact ret_i C0 hP hD hS dX5_fail_6

def f_X5_outside_14 (N : Nat) (s0 : Int32) : Option (Int32 × Unit) := if s0 = 0 ∨ s0 = 1 then some (s0, ()) else none
def f_X5_outside_9 (N : Nat) : Option (Int32 × Unit) := f_X5_outside_14 N 1
def f_X5_outside (N : Nat) (x0 x1 : Int32) : Option (Int32 × Unit) := if x0 < 0 then f_X5_outside_9 N else if x0 < x1 then f_X5_outside_14 N 0 else f_X5_outside_9 N
abbrev KP_X5_outside_14 (p : Program) (l : Launch) (e : Env) (s : State) (m : MethodId) (args : Array Value) (below : List Frame) (meth : Method) (c : Code) (D : va_G) (cI cZ : ClassId)  (A : Nat → Prop) (r : Int32) (u1 : Unit) (K : Int32 → Option (Int32 × Unit)) : Prop := ∀ (s0 : Int32) (H : Heap) (locs : List Loc) (ls : Array Slot), va_P D vwCl (wNo ()) H → va_D A (wNo ()) → va_S A s.heap H locs → lv_has ls 2 [] → K s0 = some (r, u1) → W p l e ({ frames := 0, cells := 0, slots := 0, locals := 0 } : Room) s m args below meth c H locs 0 0 (QI below args s D cI cZ (wNo) A r u1) (F0 m 14 ls [.int s0])
abbrev KP_X5_outside_9 (p : Program) (l : Launch) (e : Env) (s : State) (m : MethodId) (args : Array Value) (below : List Frame) (meth : Method) (c : Code) (D : va_G) (cI cZ : ClassId)  (A : Nat → Prop) (r : Int32) (u1 : Unit) (K : Option (Int32 × Unit)) : Prop := ∀ (H : Heap) (locs : List Loc) (ls : Array Slot), va_P D vwCl (wNo ()) H → va_D A (wNo ()) → va_S A s.heap H locs → lv_has ls 2 [] → K = some (r, u1) → W p l e ({ frames := 0, cells := 0, slots := 0, locals := 0 } : Room) s m args below meth c H locs 0 0 (QI below args s D cI cZ (wNo) A r u1) (F0 m 9 ls [])
set_option maxHeartbeats 4000000 in
set_option maxRecDepth 100000 in
theorem k_X5_outside_14 {p : Program} {l : Launch} {e : Env} {s : State} {m : MethodId} {args : Array Value} {below : List Frame} {meth : Method} {c : Code} {D : va_G} {cI cZ : ClassId}  {A : Nat → Prop} {r : Int32} {u1 : Unit} (C0 : mB p s m args meth c D cI cZ A cX5_outside 2 (some .boolean) wsX5_outside RX5) (N : Nat) : KP_X5_outside_14 p l e s m args below meth c D cI cZ  A r u1 (f_X5_outside_14 N) := by
  obtain ⟨hx, hb, hml, hr, hown, hts, hlocks, hA, hK, hN⟩ := id C0
  intro s0 H locs ls hP hD hS hl h
  unfold f_X5_outside_14 at h
  by_cases hz : s0 = 0 ∨ s0 = 1
  · rw [if_pos hz] at h
    obtain ⟨rfl, rfl⟩ := so h
    exact ret_z C0 hz hP hD hS dX5_outside_14
  · rw [if_neg hz] at h; exact no h
set_option maxHeartbeats 4000000 in
set_option maxRecDepth 100000 in
theorem k_X5_outside_9 {p : Program} {l : Launch} {e : Env} {s : State} {m : MethodId} {args : Array Value} {below : List Frame} {meth : Method} {c : Code} {D : va_G} {cI cZ : ClassId}  {A : Nat → Prop} {r : Int32} {u1 : Unit} (C0 : mB p s m args meth c D cI cZ A cX5_outside 2 (some .boolean) wsX5_outside RX5) (N : Nat) : KP_X5_outside_9 p l e s m args below meth c D cI cZ  A r u1 (f_X5_outside_9 N) := by
  obtain ⟨hx, hb, hml, hr, hown, hts, hlocks, hA, hK, hN⟩ := id C0
  intro H locs ls hP hD hS hl h
  unfold f_X5_outside_9 at h
  refine lv_iconst (v := 1) hx hb dX5_outside_9 rfl ?_
  refine lv_goto (tgt := 14) hx hb dX5_outside_10 (by decide) ?_
  exact k_X5_outside_14 C0 N 1 _ _ _ hP hD hS (lv_sub hl [] rfl) h
set_option maxHeartbeats 4000000 in
set_option maxRecDepth 100000 in
theorem c_X5_outside (l : Launch) (D : va_G) (cI cZ : ClassId)  (N : Nat) (x0 x1 : Int32) : MI l yX5_outside wsX5_outside ({ frames := 0, cells := 0, slots := 0, locals := 0 } : Room) D cI cZ (wNo) [.int x0, .int x1] () (f_X5_outside N x0 x1) := by
  refine MI.of (cc := cX5_outside) (maxL := 2) (ret := (some .boolean)) (own := RX5) (by decide) rfl rfl (Nat.le_of_ble_eq_true rfl) ?_
  intro r u1 h p e s m args below meth c A C0 H locs ls hP hD hS hl
  obtain ⟨hx, hb, hml, hr, hown, hts, hlocks, hA, hK, hN⟩ := id C0
  have hl : lv_has ls 2 [(0, .int x0), (1, .int x1)] := hl
  unfold f_X5_outside at h
  refine lv_iload_n hx hb dX5_outside_0 rfl (lv_at hl 0 rfl) ?_
  refine lv_if_lt (tgt := 9) hx hb dX5_outside_1 (by decide) (fun hc1 => ?_) (fun hc1 => ?_)
  · rw [if_pos hc1] at h
    exact k_X5_outside_9 C0 N _ _ _ hP hD hS (lv_sub hl [] rfl) h
  · rw [if_neg hc1] at h
    refine lv_iload_n hx hb dX5_outside_4 rfl (lv_at hl 0 rfl) ?_
    refine lv_iload_n hx hb dX5_outside_5 rfl (lv_at hl 1 rfl) ?_
    refine lv_icmp_lt (tgt := 13) hx hb dX5_outside_6 (by decide) (fun hc2 => ?_) (fun hc2 => ?_)
    · rw [if_pos hc2] at h
      refine lv_iconst (v := 0) hx hb dX5_outside_13 rfl ?_
      exact k_X5_outside_14 C0 N 0 _ _ _ hP hD hS (lv_sub hl [] rfl) h
    · rw [if_neg hc2] at h
      exact k_X5_outside_9 C0 N _ _ _ hP hD hS (lv_sub hl [] rfl) h

theorem in_X5_constructor_X5 : ∀ w ∈ u_ws RX5 TX5 30, w ∈ wsX5_constructor := by decide +kernel
def f_X5_constructor_27 (N : Nat) (σ : St) (x1 s1 : Int32) : Option (Int32 × St) := bnd (up2 σ 0 0 s1) (fun σ1 => if (σ1 0 0) ≤ 0 then if (σ1 1 0) < 0 ∨ 40 ≤ ((σ1 1 0)).toNatClampNeg then none else bnd (up2 σ1 2 ((σ1 1 0)).toNatClampNeg x1) (fun σ3 => bnd (up2 σ3 1 0 ((σ3 1 0) + 1)) (fun σ4 => some (((σ4 1 0) - 1), σ4))) else some (0, σ1))
def f_X5_constructor (N : Nat) (σ : St) (x1 : Int32) : Option (Int32 × St) := (f_X5_outside N x1 3).bind (fun q1 => if q1.1 = 0 then if (σ 1 0) = 40 then f_X5_constructor_27 N σ x1 2 else f_X5_constructor_27 N σ x1 0 else f_X5_constructor_27 N σ x1 1)
abbrev KP_X5_constructor_27 (p : Program) (l : Launch) (e : Env) (s : State) (m : MethodId) (args : Array Value) (below : List Frame) (meth : Method) (c : Code) (D : va_G) (cI cZ : ClassId) (a5 : Nat → Nat) (A : Nat → Prop) (r : Int32) (u1 : St) (K : St → Int32 → Int32 → Option (Int32 × St)) : Prop := ∀ (σ : St) (x1 s1 : Int32) (H : Heap) (locs : List Loc) (ls : Array Slot), va_P D vwCl (wX5 a5 cI cZ σ) H → va_D A (wX5 a5 cI cZ σ) → va_S A s.heap H locs → lv_has ls 2 [(0, .ref (a5 0)), (1, .int x1)] → K σ x1 s1 = some (r, u1) → W p l e ({ frames := 1, cells := 0, slots := 0, locals := 21 } : Room) s m args below meth c H locs 0 0 (QI below args s D cI cZ (wX5 a5 cI cZ) A r u1) (F0 m 27 ls [.int s1, .ref (a5 0)])
set_option maxHeartbeats 4000000 in
set_option maxRecDepth 100000 in
theorem k_X5_constructor_27 {p : Program} {l : Launch} {e : Env} {s : State} {m : MethodId} {args : Array Value} {below : List Frame} {meth : Method} {c : Code} {D : va_G} {cI cZ : ClassId} {a5 : Nat → Nat} {A : Nat → Prop} {r : Int32} {u1 : St} (C0 : mB p s m args meth c D cI cZ A cX5_constructor 2 (some .int) wsX5_constructor RX5) (N : Nat) : KP_X5_constructor_27 p l e s m args below meth c D cI cZ a5 A r u1 (f_X5_constructor_27 N) := by
  obtain ⟨hx, hb, hml, hr, hown, hts, hlocks, hA, hK, hN⟩ := id C0
  intro σ x1 s1 H locs ls hP hD hS hl h
  unfold f_X5_constructor_27 at h
  refine va_put (D := D) (ci := 5) (v := .int s1) (ty := .int) (C := RX5) (T := TX5) (N := 30) hx hb hts in_X5_constructor_X5 tyX5 tyX5_ok nmX5 hown hK hP hD hS 0 rfl rfl 0 (by decide) (hts (.fieldLink RX5 85 "TermLoomModel" "code" "I") (by decide +kernel)) (fun _ h9 => h9) rfl (by decide +kernel) rfl rfl (Nat.le_of_ble_eq_true rfl) dX5_constructor_27 (fun H locs hP hD hS => ?_)
  obtain ⟨σ1, eσ1, h⟩ := bn h
  have hP : va_P D vwCl (wX5 a5 cI cZ σ1) H := by rw [eσ1]; exact hP
  have hD : va_D A (wX5 a5 cI cZ σ1) := by rw [eσ1]; exact hD
  refine lv_aload_n hx hb dX5_constructor_30 rfl (lv_at hl 0 rfl) ?_
  refine va_get (D := D) (ci := 5) (v := .int (σ1 0 0)) (C := RX5) (T := TX5) (N := 30) hx hb hts in_X5_constructor_X5 hown hK hP 0 rfl rfl 0 (by decide) (hts (.fieldLink RX5 85 "TermLoomModel" "code" "I") (by decide +kernel)) (fun _ h9 => h9) rfl dX5_constructor_31 ?_
  refine lv_if_le (tgt := 39) hx hb dX5_constructor_34 (by decide) (fun hc2 => ?_) (fun hc2 => ?_)
  · rw [if_pos hc2] at h
    refine lv_aload_n hx hb dX5_constructor_39 rfl (lv_at hl 0 rfl) ?_
    refine va_get (D := D) (ci := 5) (v := .ref (a5 3)) (C := RX5) (T := TX5) (N := 30) hx hb hts in_X5_constructor_X5 hown hK hP 0 rfl rfl 2 (by decide) (hts (.fieldLink RX5 13 "TermLoomModel" "takes" "[I") (by decide +kernel)) (fun _ h9 => h9) rfl dX5_constructor_40 ?_
    refine lv_aload_n hx hb dX5_constructor_43 rfl (lv_at hl 0 rfl) ?_
    refine va_get (D := D) (ci := 5) (v := .int (σ1 1 0)) (C := RX5) (T := TX5) (N := 30) hx hb hts in_X5_constructor_X5 hown hK hP 0 rfl rfl 1 (by decide) (hts (.fieldLink RX5 7 "TermLoomModel" "constructors" "I") (by decide +kernel)) (fun _ h9 => h9) rfl dX5_constructor_44 ?_
    refine lv_iload_n hx hb dX5_constructor_47 rfl (lv_at hl 1 rfl) ?_
    by_cases hi : (σ1 1 0) < 0 ∨ 40 ≤ ((σ1 1 0)).toNatClampNeg
    · rw [if_pos hi] at h; exact no h
    rw [if_neg hi] at h
    refine va_iast (f := (σ1 2)) hx hb hK hP hD hS 1 0 rfl rfl (i := (σ1 1 0)) (x := x1) hi dX5_constructor_48 (fun H locs hP hD hS => ?_)
    obtain ⟨σ3, eσ3, h⟩ := bn h
    have hP : va_P D vwCl (wX5 a5 cI cZ σ3) H := by rw [eσ3]; exact hP
    have hD : va_D A (wX5 a5 cI cZ σ3) := by rw [eσ3]; exact hD
    refine lv_aload_n hx hb dX5_constructor_49 rfl (lv_at hl 0 rfl) ?_
    refine lv_dup hx hb dX5_constructor_50 rfl ?_
    refine va_get (D := D) (ci := 5) (v := .int (σ3 1 0)) (C := RX5) (T := TX5) (N := 30) hx hb hts in_X5_constructor_X5 hown hK hP 0 rfl rfl 1 (by decide) (hts (.fieldLink RX5 7 "TermLoomModel" "constructors" "I") (by decide +kernel)) (fun _ h9 => h9) rfl dX5_constructor_51 ?_
    refine lv_iconst (v := 1) hx hb dX5_constructor_54 rfl ?_
    refine lv_iadd hx hb dX5_constructor_55 ?_
    refine va_put (D := D) (ci := 5) (v := .int ((σ3 1 0) + 1)) (ty := .int) (C := RX5) (T := TX5) (N := 30) hx hb hts in_X5_constructor_X5 tyX5 tyX5_ok nmX5 hown hK hP hD hS 0 rfl rfl 1 (by decide) (hts (.fieldLink RX5 7 "TermLoomModel" "constructors" "I") (by decide +kernel)) (fun _ h9 => h9) rfl (by decide +kernel) rfl rfl (Nat.le_of_ble_eq_true rfl) dX5_constructor_56 (fun H locs hP hD hS => ?_)
    obtain ⟨σ4, eσ4, h⟩ := bn h
    have hP : va_P D vwCl (wX5 a5 cI cZ σ4) H := by rw [eσ4]; exact hP
    have hD : va_D A (wX5 a5 cI cZ σ4) := by rw [eσ4]; exact hD
    refine lv_aload_n hx hb dX5_constructor_59 rfl (lv_at hl 0 rfl) ?_
    refine va_get (D := D) (ci := 5) (v := .int (σ4 1 0)) (C := RX5) (T := TX5) (N := 30) hx hb hts in_X5_constructor_X5 hown hK hP 0 rfl rfl 1 (by decide) (hts (.fieldLink RX5 7 "TermLoomModel" "constructors" "I") (by decide +kernel)) (fun _ h9 => h9) rfl dX5_constructor_60 ?_
    refine lv_iconst (v := 1) hx hb dX5_constructor_63 rfl ?_
    refine lv_isub hx hb dX5_constructor_64 ?_
    obtain ⟨rfl, rfl⟩ := so h
    exact ret_i C0 hP hD hS dX5_constructor_65
  · rw [if_neg hc2] at h
    refine lv_iconst (v := 0) hx hb dX5_constructor_37 rfl ?_
    obtain ⟨rfl, rfl⟩ := so h
    exact ret_i C0 hP hD hS dX5_constructor_38
set_option maxHeartbeats 4000000 in
set_option maxRecDepth 100000 in
theorem c_X5_constructor (l : Launch) (D : va_G) (cI cZ : ClassId) (a5 : Nat → Nat) (N : Nat) (σ : St) (x1 : Int32) : MI l yX5_constructor wsX5_constructor ({ frames := 1, cells := 0, slots := 0, locals := 21 } : Room) D cI cZ (wX5 a5 cI cZ) [.ref (a5 0), .int x1] σ (f_X5_constructor N σ x1) := by
  refine MI.of (cc := cX5_constructor) (maxL := 2) (ret := (some .int)) (own := RX5) (by decide) rfl rfl (Nat.le_of_ble_eq_true rfl) ?_
  intro r u1 h p e s m args below meth c A C0 H locs ls hP hD hS hl
  obtain ⟨hx, hb, hml, hr, hown, hts, hlocks, hA, hK, hN⟩ := id C0
  have hl : lv_has ls 2 [(0, .ref (a5 0)), (1, .int x1)] := hl
  unfold f_X5_constructor at h
  refine lv_aload_n hx hb dX5_constructor_0 rfl (lv_at hl 0 rfl) ?_
  refine lv_iload_n hx hb dX5_constructor_1 rfl (lv_at hl 1 rfl) ?_
  refine lv_iconst (v := 3) hx hb dX5_constructor_2 rfl ?_
  obtain ⟨q1, hq1, h⟩ := ob h
  refine mc_i (ws' := wX5 a5 cI cZ σ) (wr := ((wX5o a5 cI cZ σ) : va_W)) [] [0, 1, 2, 3, 4, 5, 6, 7, 8, 9, 10, 11, 12, 13, 14, 15, 16, 17, 18, 19, 20, 21, 22] [0, 1, 2, 3, 4, 5, 6, 7, 8, 9, 10, 11, 12, 13, 14, 15, 16, 17, 18, 19, 20, 21, 22] (va_runS (As := [.int x1, .int 3]) (rest := [.ref (a5 0)]) ⟨hx, hb, hml, hown, hts⟩ (c_X5_outside l D cI cZ N x1 3 q1.1 q1.2 hq1 H.size) (va_cwS 2 hts gX5_constructor_X5_outside rfl rfl rfl (by decide +kernel) ⟨Nat.le_of_ble_eq_true rfl, Nat.le_of_ble_eq_true rfl⟩) (pS [] hP hD hK hN rfl rfl) rfl rfl hl.1 rfl (lv_room (Nat.le_of_ble_eq_true rfl)) dX5_constructor_3 ⟨Nat.le_of_ble_eq_true rfl, Nat.le_of_ble_eq_true rfl⟩) hP hD hS hA rfl rfl rfl (by decide) rfl rfl (fun H locs hP hD hS => ?_)
  refine lv_if_eq (tgt := 13) hx hb dX5_constructor_6 (by decide) (fun hc2 => ?_) (fun hc2 => ?_)
  · rw [if_pos hc2] at h
    refine lv_aload_n hx hb dX5_constructor_13 rfl (lv_at hl 0 rfl) ?_
    refine va_get (D := D) (ci := 5) (v := .int (σ 1 0)) (C := RX5) (T := TX5) (N := 30) hx hb hts in_X5_constructor_X5 hown hK hP 0 rfl rfl 1 (by decide) (hts (.fieldLink RX5 7 "TermLoomModel" "constructors" "I") (by decide +kernel)) (fun _ h9 => h9) rfl dX5_constructor_14 ?_
    refine lv_bipush (v := 40) hx hb dX5_constructor_17 rfl ?_
    refine lv_icmp_ne (tgt := 26) hx hb dX5_constructor_19 (by decide) (fun hc3 => ?_) (fun hc3 => ?_)
    · rw [if_neg hc3] at h
      refine lv_iconst (v := 0) hx hb dX5_constructor_26 rfl ?_
      exact k_X5_constructor_27 C0 N σ x1 0 _ _ _ hP hD hS (lv_sub hl [0, 1] rfl) h
    · rw [if_pos hc3] at h
      refine lv_iconst (v := 2) hx hb dX5_constructor_22 rfl ?_
      refine lv_goto (tgt := 27) hx hb dX5_constructor_23 (by decide) ?_
      exact k_X5_constructor_27 C0 N σ x1 2 _ _ _ hP hD hS (lv_sub hl [0, 1] rfl) h
  · rw [if_neg hc2] at h
    refine lv_iconst (v := 1) hx hb dX5_constructor_9 rfl ?_
    refine lv_goto (tgt := 27) hx hb dX5_constructor_10 (by decide) ?_
    exact k_X5_constructor_27 C0 N σ x1 1 _ _ _ hP hD hS (lv_sub hl [0, 1] rfl) h

def f_X5_chainOf (N : Nat) (x0 x1 x2 : Int32) : Option (Int32 × Unit) := some (((((7919 * x0) + (131 * x1)) + x2) &&& 4095), ())
set_option maxHeartbeats 4000000 in
set_option maxRecDepth 100000 in
theorem c_X5_chainOf (l : Launch) (D : va_G) (cI cZ : ClassId)  (N : Nat) (x0 x1 x2 : Int32) : MI l yX5_chainOf wsX5_chainOf ({ frames := 0, cells := 0, slots := 0, locals := 0 } : Room) D cI cZ (wNo) [.int x0, .int x1, .int x2] () (f_X5_chainOf N x0 x1 x2) := by
  refine MI.of (cc := cX5_chainOf) (maxL := 3) (ret := (some .int)) (own := RX5) (by decide) rfl rfl (Nat.le_of_ble_eq_true rfl) ?_
  intro r u1 h p e s m args below meth c A C0 H locs ls hP hD hS hl
  obtain ⟨hx, hb, hml, hr, hown, hts, hlocks, hA, hK, hN⟩ := id C0
  have hl : lv_has ls 3 [(0, .int x0), (1, .int x1), (2, .int x2)] := hl
  unfold f_X5_chainOf at h
  refine lv_sipush (v := 7919) hx hb dX5_chainOf_0 rfl ?_
  refine lv_iload_n hx hb dX5_chainOf_3 rfl (lv_at hl 0 rfl) ?_
  refine lv_imul hx hb dX5_chainOf_4 ?_
  refine lv_sipush (v := 131) hx hb dX5_chainOf_5 rfl ?_
  refine lv_iload_n hx hb dX5_chainOf_8 rfl (lv_at hl 1 rfl) ?_
  refine lv_imul hx hb dX5_chainOf_9 ?_
  refine lv_iadd hx hb dX5_chainOf_10 ?_
  refine lv_iload_n hx hb dX5_chainOf_11 rfl (lv_at hl 2 rfl) ?_
  refine lv_iadd hx hb dX5_chainOf_12 ?_
  refine lv_sipush (v := 4095) hx hb dX5_chainOf_13 rfl ?_
  refine lv_iand hx hb dX5_chainOf_16 ?_
  obtain ⟨rfl, rfl⟩ := so h
  exact ret_i C0 hP hD hS dX5_chainOf_17

theorem in_X5_node_X5 : ∀ w ∈ u_ws RX5 TX5 30, w ∈ wsX5_node := by decide +kernel
def f_X5_node_266 (N : Nat) (σ : St) (s1 s2 s3 : Int32) : Option (Int32 × St) := if s1 < 0 ∨ 16000 ≤ (s1).toNatClampNeg then none else bnd (up2 σ 10 (s1).toNatClampNeg (s2 + s3)) (fun σ1 => bnd (up2 σ1 5 0 ((σ1 5 0) + 1)) (fun σ2 => some (((σ2 5 0) - 1), σ2)))
def f_X5_node_241 (N : Nat) (σ : St) (x5 s0 : Int32) : Option (Int32 × St) := if x5 ≤ s0 then f_X5_node_266 N σ (σ 5 0) 1 s0 else f_X5_node_266 N σ (σ 5 0) 1 x5
def f_X5_node_224 (N : Nat) (σ : St) (x3 s0 : Int32) : Option (Int32 × St) := if x3 = (-1) then f_X5_node_241 N σ s0 0 else if x3 < 0 ∨ 16000 ≤ (x3).toNatClampNeg then none else f_X5_node_241 N σ s0 (σ 10 (x3).toNatClampNeg)
def f_X5_node_208 (N : Nat) (σ : St) (x2 x3 s1 s2 : Int32) : Option (Int32 × St) := if s1 < 0 ∨ 16000 ≤ (s1).toNatClampNeg then none else bnd (up2 σ 9 (s1).toNatClampNeg s2) (fun σ1 => if x2 = (-1) then f_X5_node_224 N σ1 x3 0 else if x2 < 0 ∨ 16000 ≤ (x2).toNatClampNeg then none else f_X5_node_224 N σ1 x3 (σ1 10 (x2).toNatClampNeg))
def f_X5_node_168 (N : Nat) (σ : St) (x2 x3 s1 s2 s3 : Int32) : Option (Int32 × St) := if s1 < 0 ∨ 16000 ≤ (s1).toNatClampNeg then none else bnd (up2 σ 9 (s1).toNatClampNeg (s2 + s3)) (fun σ1 => if (σ1 5 0) < 0 ∨ 16000 ≤ ((σ1 5 0)).toNatClampNeg then none else if (σ1 9 ((σ1 5 0)).toNatClampNeg) ≤ 1000 then if (σ1 5 0) < 0 ∨ 16000 ≤ ((σ1 5 0)).toNatClampNeg then none else f_X5_node_208 N σ1 x2 x3 (σ1 5 0) (σ1 9 ((σ1 5 0)).toNatClampNeg) else f_X5_node_208 N σ1 x2 x3 (σ1 5 0) 1000)
def f_X5_node_152 (N : Nat) (σ : St) (x2 x3 s1 s2 s3 : Int32) : Option (Int32 × St) := if x3 = (-1) then f_X5_node_168 N σ x2 x3 s1 (s2 + s3) 0 else if x3 < 0 ∨ 16000 ≤ (x3).toNatClampNeg then none else f_X5_node_168 N σ x2 x3 s1 (s2 + s3) (σ 9 (x3).toNatClampNeg)
def f_X5_node_59 (N : Nat) (k17 : St → Int32 → Int32 → Int32 → Int32 → Int32 → Option (Int32 × St)) (σ : St) (x1 x2 x3 x4 x5 : Int32) : Option (Int32 × St) := if x5 < 0 ∨ 16000 ≤ (x5).toNatClampNeg then none else k17 σ x1 x2 x3 x4 (σ 11 (x5).toNatClampNeg)
def f_X5_node_17 (N : Nat) : Nat → St → Int32 → Int32 → Int32 → Int32 → Int32 → Option (Int32 × St)
  | 0, _, _, _, _, _, _ => none
  | n + 1, σ, x1, x2, x3, x4, x5 => if x5 = (-1) then if x4 < 0 ∨ 4096 ≤ (x4).toNatClampNeg then none else if (σ 5 0) < 0 ∨ 16000 ≤ ((σ 5 0)).toNatClampNeg then none else bnd (up2 σ 11 ((σ 5 0)).toNatClampNeg (σ 12 (x4).toNatClampNeg)) (fun σ2 => if x4 < 0 ∨ 4096 ≤ (x4).toNatClampNeg then none else bnd (up2 σ2 12 (x4).toNatClampNeg (σ2 5 0)) (fun σ3 => if (σ3 5 0) < 0 ∨ 16000 ≤ ((σ3 5 0)).toNatClampNeg then none else bnd (up2 σ3 6 ((σ3 5 0)).toNatClampNeg x1) (fun σ4 => if (σ4 5 0) < 0 ∨ 16000 ≤ ((σ4 5 0)).toNatClampNeg then none else bnd (up2 σ4 7 ((σ4 5 0)).toNatClampNeg x2) (fun σ5 => if (σ5 5 0) < 0 ∨ 16000 ≤ ((σ5 5 0)).toNatClampNeg then none else bnd (up2 σ5 8 ((σ5 5 0)).toNatClampNeg x3) (fun σ6 => if x2 = (-1) then f_X5_node_152 N σ6 x2 x3 (σ6 5 0) 1 0 else if x2 < 0 ∨ 16000 ≤ (x2).toNatClampNeg then none else f_X5_node_152 N σ6 x2 x3 (σ6 5 0) 1 (σ6 9 (x2).toNatClampNeg)))))) else if x5 < 0 ∨ 16000 ≤ (x5).toNatClampNeg then none else if (σ 6 (x5).toNatClampNeg) = x1 then if x5 < 0 ∨ 16000 ≤ (x5).toNatClampNeg then none else if (σ 7 (x5).toNatClampNeg) = x2 then if x5 < 0 ∨ 16000 ≤ (x5).toNatClampNeg then none else if (σ 8 (x5).toNatClampNeg) = x3 then some (x5, σ) else f_X5_node_59 N (f_X5_node_17 N n) σ x1 x2 x3 x4 x5 else f_X5_node_59 N (f_X5_node_17 N n) σ x1 x2 x3 x4 x5 else f_X5_node_59 N (f_X5_node_17 N n) σ x1 x2 x3 x4 x5
def f_X5_node (N : Nat) (σ : St) (x1 x2 x3 : Int32) : Option (Int32 × St) := (f_X5_chainOf N x1 x2 x3).bind (fun q1 => if q1.1 < 0 ∨ 4096 ≤ (q1.1).toNatClampNeg then none else f_X5_node_17 N N σ x1 x2 x3 q1.1 (σ 12 (q1.1).toNatClampNeg))
abbrev KP_X5_node_266 (p : Program) (l : Launch) (e : Env) (s : State) (m : MethodId) (args : Array Value) (below : List Frame) (meth : Method) (c : Code) (D : va_G) (cI cZ : ClassId) (a5 : Nat → Nat) (A : Nat → Prop) (r : Int32) (u1 : St) (K : St → Int32 → Int32 → Int32 → Option (Int32 × St)) : Prop := ∀ (σ : St) (s1 s2 s3 : Int32) (H : Heap) (locs : List Loc) (ls : Array Slot), va_P D vwCl (wX5 a5 cI cZ σ) H → va_D A (wX5 a5 cI cZ σ) → va_S A s.heap H locs → lv_has ls 7 [(0, .ref (a5 0))] → K σ s1 s2 s3 = some (r, u1) → W p l e ({ frames := 1, cells := 0, slots := 0, locals := 22 } : Room) s m args below meth c H locs 0 0 (QI below args s D cI cZ (wX5 a5 cI cZ) A r u1) (F0 m 266 ls [.int s3, .int s2, .int s1, .ref (a5 11)])
abbrev KP_X5_node_241 (p : Program) (l : Launch) (e : Env) (s : State) (m : MethodId) (args : Array Value) (below : List Frame) (meth : Method) (c : Code) (D : va_G) (cI cZ : ClassId) (a5 : Nat → Nat) (A : Nat → Prop) (r : Int32) (u1 : St) (K : St → Int32 → Int32 → Option (Int32 × St)) : Prop := ∀ (σ : St) (x5 s0 : Int32) (H : Heap) (locs : List Loc) (ls : Array Slot), va_P D vwCl (wX5 a5 cI cZ σ) H → va_D A (wX5 a5 cI cZ σ) → va_S A s.heap H locs → lv_has ls 7 [(0, .ref (a5 0)), (5, .int x5)] → K σ x5 s0 = some (r, u1) → W p l e ({ frames := 1, cells := 0, slots := 0, locals := 22 } : Room) s m args below meth c H locs 0 0 (QI below args s D cI cZ (wX5 a5 cI cZ) A r u1) (F0 m 241 ls [.int s0])
abbrev KP_X5_node_224 (p : Program) (l : Launch) (e : Env) (s : State) (m : MethodId) (args : Array Value) (below : List Frame) (meth : Method) (c : Code) (D : va_G) (cI cZ : ClassId) (a5 : Nat → Nat) (A : Nat → Prop) (r : Int32) (u1 : St) (K : St → Int32 → Int32 → Option (Int32 × St)) : Prop := ∀ (σ : St) (x3 s0 : Int32) (H : Heap) (locs : List Loc) (ls : Array Slot), va_P D vwCl (wX5 a5 cI cZ σ) H → va_D A (wX5 a5 cI cZ σ) → va_S A s.heap H locs → lv_has ls 7 [(0, .ref (a5 0)), (3, .int x3)] → K σ x3 s0 = some (r, u1) → W p l e ({ frames := 1, cells := 0, slots := 0, locals := 22 } : Room) s m args below meth c H locs 0 0 (QI below args s D cI cZ (wX5 a5 cI cZ) A r u1) (F0 m 224 ls [.int s0])
abbrev KP_X5_node_208 (p : Program) (l : Launch) (e : Env) (s : State) (m : MethodId) (args : Array Value) (below : List Frame) (meth : Method) (c : Code) (D : va_G) (cI cZ : ClassId) (a5 : Nat → Nat) (A : Nat → Prop) (r : Int32) (u1 : St) (K : St → Int32 → Int32 → Int32 → Int32 → Option (Int32 × St)) : Prop := ∀ (σ : St) (x2 x3 s1 s2 : Int32) (H : Heap) (locs : List Loc) (ls : Array Slot), va_P D vwCl (wX5 a5 cI cZ σ) H → va_D A (wX5 a5 cI cZ σ) → va_S A s.heap H locs → lv_has ls 7 [(0, .ref (a5 0)), (2, .int x2), (3, .int x3)] → K σ x2 x3 s1 s2 = some (r, u1) → W p l e ({ frames := 1, cells := 0, slots := 0, locals := 22 } : Room) s m args below meth c H locs 0 0 (QI below args s D cI cZ (wX5 a5 cI cZ) A r u1) (F0 m 208 ls [.int s2, .int s1, .ref (a5 10)])
abbrev KP_X5_node_168 (p : Program) (l : Launch) (e : Env) (s : State) (m : MethodId) (args : Array Value) (below : List Frame) (meth : Method) (c : Code) (D : va_G) (cI cZ : ClassId) (a5 : Nat → Nat) (A : Nat → Prop) (r : Int32) (u1 : St) (K : St → Int32 → Int32 → Int32 → Int32 → Int32 → Option (Int32 × St)) : Prop := ∀ (σ : St) (x2 x3 s1 s2 s3 : Int32) (H : Heap) (locs : List Loc) (ls : Array Slot), va_P D vwCl (wX5 a5 cI cZ σ) H → va_D A (wX5 a5 cI cZ σ) → va_S A s.heap H locs → lv_has ls 7 [(0, .ref (a5 0)), (2, .int x2), (3, .int x3)] → K σ x2 x3 s1 s2 s3 = some (r, u1) → W p l e ({ frames := 1, cells := 0, slots := 0, locals := 22 } : Room) s m args below meth c H locs 0 0 (QI below args s D cI cZ (wX5 a5 cI cZ) A r u1) (F0 m 168 ls [.int s3, .int s2, .int s1, .ref (a5 10)])
abbrev KP_X5_node_152 (p : Program) (l : Launch) (e : Env) (s : State) (m : MethodId) (args : Array Value) (below : List Frame) (meth : Method) (c : Code) (D : va_G) (cI cZ : ClassId) (a5 : Nat → Nat) (A : Nat → Prop) (r : Int32) (u1 : St) (K : St → Int32 → Int32 → Int32 → Int32 → Int32 → Option (Int32 × St)) : Prop := ∀ (σ : St) (x2 x3 s1 s2 s3 : Int32) (H : Heap) (locs : List Loc) (ls : Array Slot), va_P D vwCl (wX5 a5 cI cZ σ) H → va_D A (wX5 a5 cI cZ σ) → va_S A s.heap H locs → lv_has ls 7 [(0, .ref (a5 0)), (2, .int x2), (3, .int x3)] → K σ x2 x3 s1 s2 s3 = some (r, u1) → W p l e ({ frames := 1, cells := 0, slots := 0, locals := 22 } : Room) s m args below meth c H locs 0 0 (QI below args s D cI cZ (wX5 a5 cI cZ) A r u1) (F0 m 152 ls [.int s3, .int s2, .int s1, .ref (a5 10)])
abbrev KP_X5_node_59 (p : Program) (l : Launch) (e : Env) (s : State) (m : MethodId) (args : Array Value) (below : List Frame) (meth : Method) (c : Code) (D : va_G) (cI cZ : ClassId) (a5 : Nat → Nat) (A : Nat → Prop) (r : Int32) (u1 : St) (K : St → Int32 → Int32 → Int32 → Int32 → Int32 → Option (Int32 × St)) : Prop := ∀ (σ : St) (x1 x2 x3 x4 x5 : Int32) (H : Heap) (locs : List Loc) (ls : Array Slot), va_P D vwCl (wX5 a5 cI cZ σ) H → va_D A (wX5 a5 cI cZ σ) → va_S A s.heap H locs → lv_has ls 7 [(0, .ref (a5 0)), (1, .int x1), (2, .int x2), (3, .int x3), (4, .int x4), (5, .int x5)] → K σ x1 x2 x3 x4 x5 = some (r, u1) → W p l e ({ frames := 1, cells := 0, slots := 0, locals := 22 } : Room) s m args below meth c H locs 0 0 (QI below args s D cI cZ (wX5 a5 cI cZ) A r u1) (F0 m 59 ls [])
abbrev KP_X5_node_17 (p : Program) (l : Launch) (e : Env) (s : State) (m : MethodId) (args : Array Value) (below : List Frame) (meth : Method) (c : Code) (D : va_G) (cI cZ : ClassId) (a5 : Nat → Nat) (A : Nat → Prop) (r : Int32) (u1 : St) (K : St → Int32 → Int32 → Int32 → Int32 → Int32 → Option (Int32 × St)) : Prop := ∀ (σ : St) (x1 x2 x3 x4 x5 : Int32) (H : Heap) (locs : List Loc) (ls : Array Slot), va_P D vwCl (wX5 a5 cI cZ σ) H → va_D A (wX5 a5 cI cZ σ) → va_S A s.heap H locs → lv_has ls 7 [(0, .ref (a5 0)), (1, .int x1), (2, .int x2), (3, .int x3), (4, .int x4), (5, .int x5)] → K σ x1 x2 x3 x4 x5 = some (r, u1) → W p l e ({ frames := 1, cells := 0, slots := 0, locals := 22 } : Room) s m args below meth c H locs 0 0 (QI below args s D cI cZ (wX5 a5 cI cZ) A r u1) (F0 m 17 ls [])
set_option maxHeartbeats 4000000 in
set_option maxRecDepth 100000 in
theorem k_X5_node_266 {p : Program} {l : Launch} {e : Env} {s : State} {m : MethodId} {args : Array Value} {below : List Frame} {meth : Method} {c : Code} {D : va_G} {cI cZ : ClassId} {a5 : Nat → Nat} {A : Nat → Prop} {r : Int32} {u1 : St} (C0 : mB p s m args meth c D cI cZ A cX5_node 7 (some .int) wsX5_node RX5) (N : Nat) : KP_X5_node_266 p l e s m args below meth c D cI cZ a5 A r u1 (f_X5_node_266 N) := by
  obtain ⟨hx, hb, hml, hr, hown, hts, hlocks, hA, hK, hN⟩ := id C0
  intro σ s1 s2 s3 H locs ls hP hD hS hl h
  unfold f_X5_node_266 at h
  refine lv_iadd hx hb dX5_node_266 ?_
  by_cases hi : s1 < 0 ∨ 16000 ≤ (s1).toNatClampNeg
  · rw [if_pos hi] at h; exact no h
  rw [if_neg hi] at h
  refine va_iast (f := (σ 10)) hx hb hK hP hD hS 7 0 rfl rfl (i := s1) (x := (s2 + s3)) hi dX5_node_267 (fun H locs hP hD hS => ?_)
  obtain ⟨σ1, eσ1, h⟩ := bn h
  have hP : va_P D vwCl (wX5 a5 cI cZ σ1) H := by rw [eσ1]; exact hP
  have hD : va_D A (wX5 a5 cI cZ σ1) := by rw [eσ1]; exact hD
  refine lv_aload_n hx hb dX5_node_268 rfl (lv_at hl 0 rfl) ?_
  refine lv_dup hx hb dX5_node_269 rfl ?_
  refine va_get (D := D) (ci := 5) (v := .int (σ1 5 0)) (C := RX5) (T := TX5) (N := 30) hx hb hts in_X5_node_X5 hown hK hP 0 rfl rfl 5 (by decide) (hts (.fieldLink RX5 96 "TermLoomModel" "nodes" "I") (by decide +kernel)) (fun _ h9 => h9) rfl dX5_node_270 ?_
  refine lv_iconst (v := 1) hx hb dX5_node_273 rfl ?_
  refine lv_iadd hx hb dX5_node_274 ?_
  refine va_put (D := D) (ci := 5) (v := .int ((σ1 5 0) + 1)) (ty := .int) (C := RX5) (T := TX5) (N := 30) hx hb hts in_X5_node_X5 tyX5 tyX5_ok nmX5 hown hK hP hD hS 0 rfl rfl 5 (by decide) (hts (.fieldLink RX5 96 "TermLoomModel" "nodes" "I") (by decide +kernel)) (fun _ h9 => h9) rfl (by decide +kernel) rfl rfl (Nat.le_of_ble_eq_true rfl) dX5_node_275 (fun H locs hP hD hS => ?_)
  obtain ⟨σ2, eσ2, h⟩ := bn h
  have hP : va_P D vwCl (wX5 a5 cI cZ σ2) H := by rw [eσ2]; exact hP
  have hD : va_D A (wX5 a5 cI cZ σ2) := by rw [eσ2]; exact hD
  refine lv_aload_n hx hb dX5_node_278 rfl (lv_at hl 0 rfl) ?_
  refine va_get (D := D) (ci := 5) (v := .int (σ2 5 0)) (C := RX5) (T := TX5) (N := 30) hx hb hts in_X5_node_X5 hown hK hP 0 rfl rfl 5 (by decide) (hts (.fieldLink RX5 96 "TermLoomModel" "nodes" "I") (by decide +kernel)) (fun _ h9 => h9) rfl dX5_node_279 ?_
  refine lv_iconst (v := 1) hx hb dX5_node_282 rfl ?_
  refine lv_isub hx hb dX5_node_283 ?_
  obtain ⟨rfl, rfl⟩ := so h
  exact ret_i C0 hP hD hS dX5_node_284
set_option maxHeartbeats 4000000 in
set_option maxRecDepth 100000 in
theorem k_X5_node_241 {p : Program} {l : Launch} {e : Env} {s : State} {m : MethodId} {args : Array Value} {below : List Frame} {meth : Method} {c : Code} {D : va_G} {cI cZ : ClassId} {a5 : Nat → Nat} {A : Nat → Prop} {r : Int32} {u1 : St} (C0 : mB p s m args meth c D cI cZ A cX5_node 7 (some .int) wsX5_node RX5) (N : Nat) : KP_X5_node_241 p l e s m args below meth c D cI cZ a5 A r u1 (f_X5_node_241 N) := by
  obtain ⟨hx, hb, hml, hr, hown, hts, hlocks, hA, hK, hN⟩ := id C0
  intro σ x5 s0 H locs ls hP hD hS hl h
  unfold f_X5_node_241 at h
  refine lv_istore (lv' := [(6, .int s0), (0, .ref (a5 0)), (5, .int x5)]) hx hb dX5_node_241 hl (by decide) rfl (fun ls hl => ?_)
  refine lv_aload_n hx hb dX5_node_243 rfl (lv_at hl 1 rfl) ?_
  refine va_get (D := D) (ci := 5) (v := .ref (a5 11)) (C := RX5) (T := TX5) (N := 30) hx hb hts in_X5_node_X5 hown hK hP 0 rfl rfl 10 (by decide) (hts (.fieldLink RX5 32 "TermLoomModel" "high" "[I") (by decide +kernel)) (fun _ h9 => h9) rfl dX5_node_244 ?_
  refine lv_aload_n hx hb dX5_node_247 rfl (lv_at hl 1 rfl) ?_
  refine va_get (D := D) (ci := 5) (v := .int (σ 5 0)) (C := RX5) (T := TX5) (N := 30) hx hb hts in_X5_node_X5 hown hK hP 0 rfl rfl 5 (by decide) (hts (.fieldLink RX5 96 "TermLoomModel" "nodes" "I") (by decide +kernel)) (fun _ h9 => h9) rfl dX5_node_248 ?_
  refine lv_iconst (v := 1) hx hb dX5_node_251 rfl ?_
  refine lv_iload hx hb dX5_node_252 (lv_at hl 2 rfl) ?_
  refine lv_iload hx hb dX5_node_254 (lv_at hl 0 rfl) ?_
  refine lv_icmp_le (tgt := 264) hx hb dX5_node_256 (by decide) (fun hc1 => ?_) (fun hc1 => ?_)
  · rw [if_pos hc1] at h
    refine lv_iload hx hb dX5_node_264 (lv_at hl 0 rfl) ?_
    exact k_X5_node_266 C0 N σ (σ 5 0) 1 s0 _ _ _ hP hD hS (lv_sub hl [1] rfl) h
  · rw [if_neg hc1] at h
    refine lv_iload hx hb dX5_node_259 (lv_at hl 2 rfl) ?_
    refine lv_goto (tgt := 266) hx hb dX5_node_261 (by decide) ?_
    exact k_X5_node_266 C0 N σ (σ 5 0) 1 x5 _ _ _ hP hD hS (lv_sub hl [1] rfl) h
set_option maxHeartbeats 4000000 in
set_option maxRecDepth 100000 in
theorem k_X5_node_224 {p : Program} {l : Launch} {e : Env} {s : State} {m : MethodId} {args : Array Value} {below : List Frame} {meth : Method} {c : Code} {D : va_G} {cI cZ : ClassId} {a5 : Nat → Nat} {A : Nat → Prop} {r : Int32} {u1 : St} (C0 : mB p s m args meth c D cI cZ A cX5_node 7 (some .int) wsX5_node RX5) (N : Nat) : KP_X5_node_224 p l e s m args below meth c D cI cZ a5 A r u1 (f_X5_node_224 N) := by
  obtain ⟨hx, hb, hml, hr, hown, hts, hlocks, hA, hK, hN⟩ := id C0
  intro σ x3 s0 H locs ls hP hD hS hl h
  unfold f_X5_node_224 at h
  refine lv_istore (lv' := [(5, .int s0), (0, .ref (a5 0)), (3, .int x3)]) hx hb dX5_node_224 hl (by decide) rfl (fun ls hl => ?_)
  refine lv_iload_n hx hb dX5_node_226 rfl (lv_at hl 2 rfl) ?_
  refine lv_iconst (v := (-1)) hx hb dX5_node_227 rfl ?_
  refine lv_icmp_ne (tgt := 235) hx hb dX5_node_228 (by decide) (fun hc1 => ?_) (fun hc1 => ?_)
  · rw [if_neg hc1] at h
    refine lv_aload_n hx hb dX5_node_235 rfl (lv_at hl 1 rfl) ?_
    refine va_get (D := D) (ci := 5) (v := .ref (a5 11)) (C := RX5) (T := TX5) (N := 30) hx hb hts in_X5_node_X5 hown hK hP 0 rfl rfl 10 (by decide) (hts (.fieldLink RX5 32 "TermLoomModel" "high" "[I") (by decide +kernel)) (fun _ h9 => h9) rfl dX5_node_236 ?_
    refine lv_iload_n hx hb dX5_node_239 rfl (lv_at hl 2 rfl) ?_
    by_cases hi : x3 < 0 ∨ 16000 ≤ (x3).toNatClampNeg
    · rw [if_pos hi] at h; exact no h
    rw [if_neg hi] at h
    refine va_iald (f := (σ 10)) hx hb hK hP 7 0 rfl rfl (i := x3) hi dX5_node_240 ?_
    exact k_X5_node_241 C0 N σ s0 (σ 10 (x3).toNatClampNeg) _ _ _ hP hD hS (lv_sub hl [1, 0] rfl) h
  · rw [if_pos hc1] at h
    refine lv_iconst (v := 0) hx hb dX5_node_231 rfl ?_
    refine lv_goto (tgt := 241) hx hb dX5_node_232 (by decide) ?_
    exact k_X5_node_241 C0 N σ s0 0 _ _ _ hP hD hS (lv_sub hl [1, 0] rfl) h
set_option maxHeartbeats 4000000 in
set_option maxRecDepth 100000 in
theorem k_X5_node_208 {p : Program} {l : Launch} {e : Env} {s : State} {m : MethodId} {args : Array Value} {below : List Frame} {meth : Method} {c : Code} {D : va_G} {cI cZ : ClassId} {a5 : Nat → Nat} {A : Nat → Prop} {r : Int32} {u1 : St} (C0 : mB p s m args meth c D cI cZ A cX5_node 7 (some .int) wsX5_node RX5) (N : Nat) : KP_X5_node_208 p l e s m args below meth c D cI cZ a5 A r u1 (f_X5_node_208 N) := by
  obtain ⟨hx, hb, hml, hr, hown, hts, hlocks, hA, hK, hN⟩ := id C0
  intro σ x2 x3 s1 s2 H locs ls hP hD hS hl h
  unfold f_X5_node_208 at h
  by_cases hi : s1 < 0 ∨ 16000 ≤ (s1).toNatClampNeg
  · rw [if_pos hi] at h; exact no h
  rw [if_neg hi] at h
  refine va_iast (f := (σ 9)) hx hb hK hP hD hS 6 0 rfl rfl (i := s1) (x := s2) hi dX5_node_208 (fun H locs hP hD hS => ?_)
  obtain ⟨σ1, eσ1, h⟩ := bn h
  have hP : va_P D vwCl (wX5 a5 cI cZ σ1) H := by rw [eσ1]; exact hP
  have hD : va_D A (wX5 a5 cI cZ σ1) := by rw [eσ1]; exact hD
  refine lv_iload_n hx hb dX5_node_209 rfl (lv_at hl 1 rfl) ?_
  refine lv_iconst (v := (-1)) hx hb dX5_node_210 rfl ?_
  refine lv_icmp_ne (tgt := 218) hx hb dX5_node_211 (by decide) (fun hc2 => ?_) (fun hc2 => ?_)
  · rw [if_neg hc2] at h
    refine lv_aload_n hx hb dX5_node_218 rfl (lv_at hl 0 rfl) ?_
    refine va_get (D := D) (ci := 5) (v := .ref (a5 11)) (C := RX5) (T := TX5) (N := 30) hx hb hts in_X5_node_X5 hown hK hP 0 rfl rfl 10 (by decide) (hts (.fieldLink RX5 32 "TermLoomModel" "high" "[I") (by decide +kernel)) (fun _ h9 => h9) rfl dX5_node_219 ?_
    refine lv_iload_n hx hb dX5_node_222 rfl (lv_at hl 1 rfl) ?_
    by_cases hi : x2 < 0 ∨ 16000 ≤ (x2).toNatClampNeg
    · rw [if_pos hi] at h; exact no h
    rw [if_neg hi] at h
    refine va_iald (f := (σ1 10)) hx hb hK hP 7 0 rfl rfl (i := x2) hi dX5_node_223 ?_
    exact k_X5_node_224 C0 N σ1 x3 (σ1 10 (x2).toNatClampNeg) _ _ _ hP hD hS (lv_sub hl [0, 2] rfl) h
  · rw [if_pos hc2] at h
    refine lv_iconst (v := 0) hx hb dX5_node_214 rfl ?_
    refine lv_goto (tgt := 224) hx hb dX5_node_215 (by decide) ?_
    exact k_X5_node_224 C0 N σ1 x3 0 _ _ _ hP hD hS (lv_sub hl [0, 2] rfl) h
set_option maxHeartbeats 4000000 in
set_option maxRecDepth 100000 in
theorem k_X5_node_168 {p : Program} {l : Launch} {e : Env} {s : State} {m : MethodId} {args : Array Value} {below : List Frame} {meth : Method} {c : Code} {D : va_G} {cI cZ : ClassId} {a5 : Nat → Nat} {A : Nat → Prop} {r : Int32} {u1 : St} (C0 : mB p s m args meth c D cI cZ A cX5_node 7 (some .int) wsX5_node RX5) (N : Nat) : KP_X5_node_168 p l e s m args below meth c D cI cZ a5 A r u1 (f_X5_node_168 N) := by
  obtain ⟨hx, hb, hml, hr, hown, hts, hlocks, hA, hK, hN⟩ := id C0
  intro σ x2 x3 s1 s2 s3 H locs ls hP hD hS hl h
  unfold f_X5_node_168 at h
  refine lv_iadd hx hb dX5_node_168 ?_
  by_cases hi : s1 < 0 ∨ 16000 ≤ (s1).toNatClampNeg
  · rw [if_pos hi] at h; exact no h
  rw [if_neg hi] at h
  refine va_iast (f := (σ 9)) hx hb hK hP hD hS 6 0 rfl rfl (i := s1) (x := (s2 + s3)) hi dX5_node_169 (fun H locs hP hD hS => ?_)
  obtain ⟨σ1, eσ1, h⟩ := bn h
  have hP : va_P D vwCl (wX5 a5 cI cZ σ1) H := by rw [eσ1]; exact hP
  have hD : va_D A (wX5 a5 cI cZ σ1) := by rw [eσ1]; exact hD
  refine lv_aload_n hx hb dX5_node_170 rfl (lv_at hl 0 rfl) ?_
  refine va_get (D := D) (ci := 5) (v := .ref (a5 10)) (C := RX5) (T := TX5) (N := 30) hx hb hts in_X5_node_X5 hown hK hP 0 rfl rfl 9 (by decide) (hts (.fieldLink RX5 29 "TermLoomModel" "wide" "[I") (by decide +kernel)) (fun _ h9 => h9) rfl dX5_node_171 ?_
  refine lv_aload_n hx hb dX5_node_174 rfl (lv_at hl 0 rfl) ?_
  refine va_get (D := D) (ci := 5) (v := .int (σ1 5 0)) (C := RX5) (T := TX5) (N := 30) hx hb hts in_X5_node_X5 hown hK hP 0 rfl rfl 5 (by decide) (hts (.fieldLink RX5 96 "TermLoomModel" "nodes" "I") (by decide +kernel)) (fun _ h9 => h9) rfl dX5_node_175 ?_
  refine lv_aload_n hx hb dX5_node_178 rfl (lv_at hl 0 rfl) ?_
  refine va_get (D := D) (ci := 5) (v := .ref (a5 10)) (C := RX5) (T := TX5) (N := 30) hx hb hts in_X5_node_X5 hown hK hP 0 rfl rfl 9 (by decide) (hts (.fieldLink RX5 29 "TermLoomModel" "wide" "[I") (by decide +kernel)) (fun _ h9 => h9) rfl dX5_node_179 ?_
  refine lv_aload_n hx hb dX5_node_182 rfl (lv_at hl 0 rfl) ?_
  refine va_get (D := D) (ci := 5) (v := .int (σ1 5 0)) (C := RX5) (T := TX5) (N := 30) hx hb hts in_X5_node_X5 hown hK hP 0 rfl rfl 5 (by decide) (hts (.fieldLink RX5 96 "TermLoomModel" "nodes" "I") (by decide +kernel)) (fun _ h9 => h9) rfl dX5_node_183 ?_
  by_cases hi : (σ1 5 0) < 0 ∨ 16000 ≤ ((σ1 5 0)).toNatClampNeg
  · rw [if_pos hi] at h; exact no h
  rw [if_neg hi] at h
  refine va_iald (f := (σ1 9)) hx hb hK hP 6 0 rfl rfl (i := (σ1 5 0)) hi dX5_node_186 ?_
  refine lv_sipush (v := 1000) hx hb dX5_node_187 rfl ?_
  refine lv_icmp_le (tgt := 199) hx hb dX5_node_190 (by decide) (fun hc2 => ?_) (fun hc2 => ?_)
  · rw [if_pos hc2] at h
    refine lv_aload_n hx hb dX5_node_199 rfl (lv_at hl 0 rfl) ?_
    refine va_get (D := D) (ci := 5) (v := .ref (a5 10)) (C := RX5) (T := TX5) (N := 30) hx hb hts in_X5_node_X5 hown hK hP 0 rfl rfl 9 (by decide) (hts (.fieldLink RX5 29 "TermLoomModel" "wide" "[I") (by decide +kernel)) (fun _ h9 => h9) rfl dX5_node_200 ?_
    refine lv_aload_n hx hb dX5_node_203 rfl (lv_at hl 0 rfl) ?_
    refine va_get (D := D) (ci := 5) (v := .int (σ1 5 0)) (C := RX5) (T := TX5) (N := 30) hx hb hts in_X5_node_X5 hown hK hP 0 rfl rfl 5 (by decide) (hts (.fieldLink RX5 96 "TermLoomModel" "nodes" "I") (by decide +kernel)) (fun _ h9 => h9) rfl dX5_node_204 ?_
    by_cases hi : (σ1 5 0) < 0 ∨ 16000 ≤ ((σ1 5 0)).toNatClampNeg
    · rw [if_pos hi] at h; exact no h
    rw [if_neg hi] at h
    refine va_iald (f := (σ1 9)) hx hb hK hP 6 0 rfl rfl (i := (σ1 5 0)) hi dX5_node_207 ?_
    exact k_X5_node_208 C0 N σ1 x2 x3 (σ1 5 0) (σ1 9 ((σ1 5 0)).toNatClampNeg) _ _ _ hP hD hS (lv_sub hl [0, 1, 2] rfl) h
  · rw [if_neg hc2] at h
    refine lv_sipush (v := 1000) hx hb dX5_node_193 rfl ?_
    refine lv_goto (tgt := 208) hx hb dX5_node_196 (by decide) ?_
    exact k_X5_node_208 C0 N σ1 x2 x3 (σ1 5 0) 1000 _ _ _ hP hD hS (lv_sub hl [0, 1, 2] rfl) h
set_option maxHeartbeats 4000000 in
set_option maxRecDepth 100000 in
theorem k_X5_node_152 {p : Program} {l : Launch} {e : Env} {s : State} {m : MethodId} {args : Array Value} {below : List Frame} {meth : Method} {c : Code} {D : va_G} {cI cZ : ClassId} {a5 : Nat → Nat} {A : Nat → Prop} {r : Int32} {u1 : St} (C0 : mB p s m args meth c D cI cZ A cX5_node 7 (some .int) wsX5_node RX5) (N : Nat) : KP_X5_node_152 p l e s m args below meth c D cI cZ a5 A r u1 (f_X5_node_152 N) := by
  obtain ⟨hx, hb, hml, hr, hown, hts, hlocks, hA, hK, hN⟩ := id C0
  intro σ x2 x3 s1 s2 s3 H locs ls hP hD hS hl h
  unfold f_X5_node_152 at h
  refine lv_iadd hx hb dX5_node_152 ?_
  refine lv_iload_n hx hb dX5_node_153 rfl (lv_at hl 2 rfl) ?_
  refine lv_iconst (v := (-1)) hx hb dX5_node_154 rfl ?_
  refine lv_icmp_ne (tgt := 162) hx hb dX5_node_155 (by decide) (fun hc1 => ?_) (fun hc1 => ?_)
  · rw [if_neg hc1] at h
    refine lv_aload_n hx hb dX5_node_162 rfl (lv_at hl 0 rfl) ?_
    refine va_get (D := D) (ci := 5) (v := .ref (a5 10)) (C := RX5) (T := TX5) (N := 30) hx hb hts in_X5_node_X5 hown hK hP 0 rfl rfl 9 (by decide) (hts (.fieldLink RX5 29 "TermLoomModel" "wide" "[I") (by decide +kernel)) (fun _ h9 => h9) rfl dX5_node_163 ?_
    refine lv_iload_n hx hb dX5_node_166 rfl (lv_at hl 2 rfl) ?_
    by_cases hi : x3 < 0 ∨ 16000 ≤ (x3).toNatClampNeg
    · rw [if_pos hi] at h; exact no h
    rw [if_neg hi] at h
    refine va_iald (f := (σ 9)) hx hb hK hP 6 0 rfl rfl (i := x3) hi dX5_node_167 ?_
    exact k_X5_node_168 C0 N σ x2 x3 s1 (s2 + s3) (σ 9 (x3).toNatClampNeg) _ _ _ hP hD hS (lv_sub hl [0, 1, 2] rfl) h
  · rw [if_pos hc1] at h
    refine lv_iconst (v := 0) hx hb dX5_node_158 rfl ?_
    refine lv_goto (tgt := 168) hx hb dX5_node_159 (by decide) ?_
    exact k_X5_node_168 C0 N σ x2 x3 s1 (s2 + s3) 0 _ _ _ hP hD hS (lv_sub hl [0, 1, 2] rfl) h
set_option maxHeartbeats 4000000 in
set_option maxRecDepth 100000 in
theorem k_X5_node_59 {p : Program} {l : Launch} {e : Env} {s : State} {m : MethodId} {args : Array Value} {below : List Frame} {meth : Method} {c : Code} {D : va_G} {cI cZ : ClassId} {a5 : Nat → Nat} {A : Nat → Prop} {r : Int32} {u1 : St} (C0 : mB p s m args meth c D cI cZ A cX5_node 7 (some .int) wsX5_node RX5) (N : Nat) (k17 : St → Int32 → Int32 → Int32 → Int32 → Int32 → Option (Int32 × St)) (hk17 : KP_X5_node_17 p l e s m args below meth c D cI cZ a5 A r u1 k17) : KP_X5_node_59 p l e s m args below meth c D cI cZ a5 A r u1 (f_X5_node_59 N k17) := by
  obtain ⟨hx, hb, hml, hr, hown, hts, hlocks, hA, hK, hN⟩ := id C0
  intro σ x1 x2 x3 x4 x5 H locs ls hP hD hS hl h
  unfold f_X5_node_59 at h
  refine lv_aload_n hx hb dX5_node_59 rfl (lv_at hl 0 rfl) ?_
  refine va_get (D := D) (ci := 5) (v := .ref (a5 12)) (C := RX5) (T := TX5) (N := 30) hx hb hts in_X5_node_X5 hown hK hP 0 rfl rfl 11 (by decide) (hts (.fieldLink RX5 35 "TermLoomModel" "behind" "[I") (by decide +kernel)) (fun _ h9 => h9) rfl dX5_node_60 ?_
  refine lv_iload hx hb dX5_node_63 (lv_at hl 5 rfl) ?_
  by_cases hi : x5 < 0 ∨ 16000 ≤ (x5).toNatClampNeg
  · rw [if_pos hi] at h; exact no h
  rw [if_neg hi] at h
  refine va_iald (f := (σ 11)) hx hb hK hP 8 0 rfl rfl (i := x5) hi dX5_node_65 ?_
  refine lv_istore (lv' := [(5, .int (σ 11 (x5).toNatClampNeg)), (0, .ref (a5 0)), (1, .int x1), (2, .int x2), (3, .int x3), (4, .int x4)]) hx hb dX5_node_66 hl (by decide) rfl (fun ls hl => ?_)
  refine lv_goto (tgt := 17) hx hb dX5_node_68 (by decide) ?_
  exact hk17 σ x1 x2 x3 x4 (σ 11 (x5).toNatClampNeg) _ _ _ hP hD hS (lv_sub hl [1, 2, 3, 4, 5, 0] rfl) h
set_option maxHeartbeats 4000000 in
set_option maxRecDepth 100000 in
theorem k_X5_node_17 {p : Program} {l : Launch} {e : Env} {s : State} {m : MethodId} {args : Array Value} {below : List Frame} {meth : Method} {c : Code} {D : va_G} {cI cZ : ClassId} {a5 : Nat → Nat} {A : Nat → Prop} {r : Int32} {u1 : St} (C0 : mB p s m args meth c D cI cZ A cX5_node 7 (some .int) wsX5_node RX5) (N : Nat) : ∀ n : Nat, KP_X5_node_17 p l e s m args below meth c D cI cZ a5 A r u1 (f_X5_node_17 N n) := by
  obtain ⟨hx, hb, hml, hr, hown, hts, hlocks, hA, hK, hN⟩ := id C0
  intro n
  induction n with
  | zero =>
    intro σ x1 x2 x3 x4 x5 H locs ls hP hD hS hl h
    exact no (show (none : Option (Int32 × St)) = _ from h)
  | succ n ih =>
    intro σ x1 x2 x3 x4 x5 H locs ls hP hD hS hl h
    rw [f_X5_node_17] at h
    refine lv_iload hx hb dX5_node_17 (lv_at hl 5 rfl) ?_
    refine lv_iconst (v := (-1)) hx hb dX5_node_19 rfl ?_
    refine lv_icmp_eq (tgt := 71) hx hb dX5_node_20 (by decide) (fun hc1 => ?_) (fun hc1 => ?_)
    · rw [if_pos hc1] at h
      refine lv_aload_n hx hb dX5_node_71 rfl (lv_at hl 0 rfl) ?_
      refine va_get (D := D) (ci := 5) (v := .ref (a5 12)) (C := RX5) (T := TX5) (N := 30) hx hb hts in_X5_node_X5 hown hK hP 0 rfl rfl 11 (by decide) (hts (.fieldLink RX5 35 "TermLoomModel" "behind" "[I") (by decide +kernel)) (fun _ h9 => h9) rfl dX5_node_72 ?_
      refine lv_aload_n hx hb dX5_node_75 rfl (lv_at hl 0 rfl) ?_
      refine va_get (D := D) (ci := 5) (v := .int (σ 5 0)) (C := RX5) (T := TX5) (N := 30) hx hb hts in_X5_node_X5 hown hK hP 0 rfl rfl 5 (by decide) (hts (.fieldLink RX5 96 "TermLoomModel" "nodes" "I") (by decide +kernel)) (fun _ h9 => h9) rfl dX5_node_76 ?_
      refine lv_aload_n hx hb dX5_node_79 rfl (lv_at hl 0 rfl) ?_
      refine va_get (D := D) (ci := 5) (v := .ref (a5 13)) (C := RX5) (T := TX5) (N := 30) hx hb hts in_X5_node_X5 hown hK hP 0 rfl rfl 12 (by decide) (hts (.fieldLink RX5 38 "TermLoomModel" "chain" "[I") (by decide +kernel)) (fun _ h9 => h9) rfl dX5_node_80 ?_
      refine lv_iload hx hb dX5_node_83 (lv_at hl 4 rfl) ?_
      by_cases hi : x4 < 0 ∨ 4096 ≤ (x4).toNatClampNeg
      · rw [if_pos hi] at h; exact no h
      rw [if_neg hi] at h
      refine va_iald (f := (σ 12)) hx hb hK hP 9 0 rfl rfl (i := x4) hi dX5_node_85 ?_
      by_cases hi : (σ 5 0) < 0 ∨ 16000 ≤ ((σ 5 0)).toNatClampNeg
      · rw [if_pos hi] at h; exact no h
      rw [if_neg hi] at h
      refine va_iast (f := (σ 11)) hx hb hK hP hD hS 8 0 rfl rfl (i := (σ 5 0)) (x := (σ 12 (x4).toNatClampNeg)) hi dX5_node_86 (fun H locs hP hD hS => ?_)
      obtain ⟨σ2, eσ2, h⟩ := bn h
      have hP : va_P D vwCl (wX5 a5 cI cZ σ2) H := by rw [eσ2]; exact hP
      have hD : va_D A (wX5 a5 cI cZ σ2) := by rw [eσ2]; exact hD
      refine lv_aload_n hx hb dX5_node_87 rfl (lv_at hl 0 rfl) ?_
      refine va_get (D := D) (ci := 5) (v := .ref (a5 13)) (C := RX5) (T := TX5) (N := 30) hx hb hts in_X5_node_X5 hown hK hP 0 rfl rfl 12 (by decide) (hts (.fieldLink RX5 38 "TermLoomModel" "chain" "[I") (by decide +kernel)) (fun _ h9 => h9) rfl dX5_node_88 ?_
      refine lv_iload hx hb dX5_node_91 (lv_at hl 4 rfl) ?_
      refine lv_aload_n hx hb dX5_node_93 rfl (lv_at hl 0 rfl) ?_
      refine va_get (D := D) (ci := 5) (v := .int (σ2 5 0)) (C := RX5) (T := TX5) (N := 30) hx hb hts in_X5_node_X5 hown hK hP 0 rfl rfl 5 (by decide) (hts (.fieldLink RX5 96 "TermLoomModel" "nodes" "I") (by decide +kernel)) (fun _ h9 => h9) rfl dX5_node_94 ?_
      by_cases hi : x4 < 0 ∨ 4096 ≤ (x4).toNatClampNeg
      · rw [if_pos hi] at h; exact no h
      rw [if_neg hi] at h
      refine va_iast (f := (σ2 12)) hx hb hK hP hD hS 9 0 rfl rfl (i := x4) (x := (σ2 5 0)) hi dX5_node_97 (fun H locs hP hD hS => ?_)
      obtain ⟨σ3, eσ3, h⟩ := bn h
      have hP : va_P D vwCl (wX5 a5 cI cZ σ3) H := by rw [eσ3]; exact hP
      have hD : va_D A (wX5 a5 cI cZ σ3) := by rw [eσ3]; exact hD
      refine lv_aload_n hx hb dX5_node_98 rfl (lv_at hl 0 rfl) ?_
      refine va_get (D := D) (ci := 5) (v := .ref (a5 7)) (C := RX5) (T := TX5) (N := 30) hx hb hts in_X5_node_X5 hown hK hP 0 rfl rfl 6 (by decide) (hts (.fieldLink RX5 20 "TermLoomModel" "head" "[I") (by decide +kernel)) (fun _ h9 => h9) rfl dX5_node_99 ?_
      refine lv_aload_n hx hb dX5_node_102 rfl (lv_at hl 0 rfl) ?_
      refine va_get (D := D) (ci := 5) (v := .int (σ3 5 0)) (C := RX5) (T := TX5) (N := 30) hx hb hts in_X5_node_X5 hown hK hP 0 rfl rfl 5 (by decide) (hts (.fieldLink RX5 96 "TermLoomModel" "nodes" "I") (by decide +kernel)) (fun _ h9 => h9) rfl dX5_node_103 ?_
      refine lv_iload_n hx hb dX5_node_106 rfl (lv_at hl 1 rfl) ?_
      by_cases hi : (σ3 5 0) < 0 ∨ 16000 ≤ ((σ3 5 0)).toNatClampNeg
      · rw [if_pos hi] at h; exact no h
      rw [if_neg hi] at h
      refine va_iast (f := (σ3 6)) hx hb hK hP hD hS 3 0 rfl rfl (i := (σ3 5 0)) (x := x1) hi dX5_node_107 (fun H locs hP hD hS => ?_)
      obtain ⟨σ4, eσ4, h⟩ := bn h
      have hP : va_P D vwCl (wX5 a5 cI cZ σ4) H := by rw [eσ4]; exact hP
      have hD : va_D A (wX5 a5 cI cZ σ4) := by rw [eσ4]; exact hD
      refine lv_aload_n hx hb dX5_node_108 rfl (lv_at hl 0 rfl) ?_
      refine va_get (D := D) (ci := 5) (v := .ref (a5 8)) (C := RX5) (T := TX5) (N := 30) hx hb hts in_X5_node_X5 hown hK hP 0 rfl rfl 7 (by decide) (hts (.fieldLink RX5 23 "TermLoomModel" "left" "[I") (by decide +kernel)) (fun _ h9 => h9) rfl dX5_node_109 ?_
      refine lv_aload_n hx hb dX5_node_112 rfl (lv_at hl 0 rfl) ?_
      refine va_get (D := D) (ci := 5) (v := .int (σ4 5 0)) (C := RX5) (T := TX5) (N := 30) hx hb hts in_X5_node_X5 hown hK hP 0 rfl rfl 5 (by decide) (hts (.fieldLink RX5 96 "TermLoomModel" "nodes" "I") (by decide +kernel)) (fun _ h9 => h9) rfl dX5_node_113 ?_
      refine lv_iload_n hx hb dX5_node_116 rfl (lv_at hl 2 rfl) ?_
      by_cases hi : (σ4 5 0) < 0 ∨ 16000 ≤ ((σ4 5 0)).toNatClampNeg
      · rw [if_pos hi] at h; exact no h
      rw [if_neg hi] at h
      refine va_iast (f := (σ4 7)) hx hb hK hP hD hS 4 0 rfl rfl (i := (σ4 5 0)) (x := x2) hi dX5_node_117 (fun H locs hP hD hS => ?_)
      obtain ⟨σ5, eσ5, h⟩ := bn h
      have hP : va_P D vwCl (wX5 a5 cI cZ σ5) H := by rw [eσ5]; exact hP
      have hD : va_D A (wX5 a5 cI cZ σ5) := by rw [eσ5]; exact hD
      refine lv_aload_n hx hb dX5_node_118 rfl (lv_at hl 0 rfl) ?_
      refine va_get (D := D) (ci := 5) (v := .ref (a5 9)) (C := RX5) (T := TX5) (N := 30) hx hb hts in_X5_node_X5 hown hK hP 0 rfl rfl 8 (by decide) (hts (.fieldLink RX5 26 "TermLoomModel" "right" "[I") (by decide +kernel)) (fun _ h9 => h9) rfl dX5_node_119 ?_
      refine lv_aload_n hx hb dX5_node_122 rfl (lv_at hl 0 rfl) ?_
      refine va_get (D := D) (ci := 5) (v := .int (σ5 5 0)) (C := RX5) (T := TX5) (N := 30) hx hb hts in_X5_node_X5 hown hK hP 0 rfl rfl 5 (by decide) (hts (.fieldLink RX5 96 "TermLoomModel" "nodes" "I") (by decide +kernel)) (fun _ h9 => h9) rfl dX5_node_123 ?_
      refine lv_iload_n hx hb dX5_node_126 rfl (lv_at hl 3 rfl) ?_
      by_cases hi : (σ5 5 0) < 0 ∨ 16000 ≤ ((σ5 5 0)).toNatClampNeg
      · rw [if_pos hi] at h; exact no h
      rw [if_neg hi] at h
      refine va_iast (f := (σ5 8)) hx hb hK hP hD hS 5 0 rfl rfl (i := (σ5 5 0)) (x := x3) hi dX5_node_127 (fun H locs hP hD hS => ?_)
      obtain ⟨σ6, eσ6, h⟩ := bn h
      have hP : va_P D vwCl (wX5 a5 cI cZ σ6) H := by rw [eσ6]; exact hP
      have hD : va_D A (wX5 a5 cI cZ σ6) := by rw [eσ6]; exact hD
      refine lv_aload_n hx hb dX5_node_128 rfl (lv_at hl 0 rfl) ?_
      refine va_get (D := D) (ci := 5) (v := .ref (a5 10)) (C := RX5) (T := TX5) (N := 30) hx hb hts in_X5_node_X5 hown hK hP 0 rfl rfl 9 (by decide) (hts (.fieldLink RX5 29 "TermLoomModel" "wide" "[I") (by decide +kernel)) (fun _ h9 => h9) rfl dX5_node_129 ?_
      refine lv_aload_n hx hb dX5_node_132 rfl (lv_at hl 0 rfl) ?_
      refine va_get (D := D) (ci := 5) (v := .int (σ6 5 0)) (C := RX5) (T := TX5) (N := 30) hx hb hts in_X5_node_X5 hown hK hP 0 rfl rfl 5 (by decide) (hts (.fieldLink RX5 96 "TermLoomModel" "nodes" "I") (by decide +kernel)) (fun _ h9 => h9) rfl dX5_node_133 ?_
      refine lv_iconst (v := 1) hx hb dX5_node_136 rfl ?_
      refine lv_iload_n hx hb dX5_node_137 rfl (lv_at hl 2 rfl) ?_
      refine lv_iconst (v := (-1)) hx hb dX5_node_138 rfl ?_
      refine lv_icmp_ne (tgt := 146) hx hb dX5_node_139 (by decide) (fun hc7 => ?_) (fun hc7 => ?_)
      · rw [if_neg hc7] at h
        refine lv_aload_n hx hb dX5_node_146 rfl (lv_at hl 0 rfl) ?_
        refine va_get (D := D) (ci := 5) (v := .ref (a5 10)) (C := RX5) (T := TX5) (N := 30) hx hb hts in_X5_node_X5 hown hK hP 0 rfl rfl 9 (by decide) (hts (.fieldLink RX5 29 "TermLoomModel" "wide" "[I") (by decide +kernel)) (fun _ h9 => h9) rfl dX5_node_147 ?_
        refine lv_iload_n hx hb dX5_node_150 rfl (lv_at hl 2 rfl) ?_
        by_cases hi : x2 < 0 ∨ 16000 ≤ (x2).toNatClampNeg
        · rw [if_pos hi] at h; exact no h
        rw [if_neg hi] at h
        refine va_iald (f := (σ6 9)) hx hb hK hP 6 0 rfl rfl (i := x2) hi dX5_node_151 ?_
        exact k_X5_node_152 C0 N σ6 x2 x3 (σ6 5 0) 1 (σ6 9 (x2).toNatClampNeg) _ _ _ hP hD hS (lv_sub hl [0, 2, 3] rfl) h
      · rw [if_pos hc7] at h
        refine lv_iconst (v := 0) hx hb dX5_node_142 rfl ?_
        refine lv_goto (tgt := 152) hx hb dX5_node_143 (by decide) ?_
        exact k_X5_node_152 C0 N σ6 x2 x3 (σ6 5 0) 1 0 _ _ _ hP hD hS (lv_sub hl [0, 2, 3] rfl) h
    · rw [if_neg hc1] at h
      refine lv_aload_n hx hb dX5_node_23 rfl (lv_at hl 0 rfl) ?_
      refine va_get (D := D) (ci := 5) (v := .ref (a5 7)) (C := RX5) (T := TX5) (N := 30) hx hb hts in_X5_node_X5 hown hK hP 0 rfl rfl 6 (by decide) (hts (.fieldLink RX5 20 "TermLoomModel" "head" "[I") (by decide +kernel)) (fun _ h9 => h9) rfl dX5_node_24 ?_
      refine lv_iload hx hb dX5_node_27 (lv_at hl 5 rfl) ?_
      by_cases hi : x5 < 0 ∨ 16000 ≤ (x5).toNatClampNeg
      · rw [if_pos hi] at h; exact no h
      rw [if_neg hi] at h
      refine va_iald (f := (σ 6)) hx hb hK hP 3 0 rfl rfl (i := x5) hi dX5_node_29 ?_
      refine lv_iload_n hx hb dX5_node_30 rfl (lv_at hl 1 rfl) ?_
      refine lv_icmp_ne (tgt := 59) hx hb dX5_node_31 (by decide) (fun hc8 => ?_) (fun hc8 => ?_)
      · rw [if_neg hc8] at h
        exact k_X5_node_59 C0 N (f_X5_node_17 N n) ih σ x1 x2 x3 x4 x5 _ _ _ hP hD hS (lv_sub hl [0, 1, 2, 3, 4, 5] rfl) h
      · rw [if_pos hc8] at h
        refine lv_aload_n hx hb dX5_node_34 rfl (lv_at hl 0 rfl) ?_
        refine va_get (D := D) (ci := 5) (v := .ref (a5 8)) (C := RX5) (T := TX5) (N := 30) hx hb hts in_X5_node_X5 hown hK hP 0 rfl rfl 7 (by decide) (hts (.fieldLink RX5 23 "TermLoomModel" "left" "[I") (by decide +kernel)) (fun _ h9 => h9) rfl dX5_node_35 ?_
        refine lv_iload hx hb dX5_node_38 (lv_at hl 5 rfl) ?_
        by_cases hi : x5 < 0 ∨ 16000 ≤ (x5).toNatClampNeg
        · rw [if_pos hi] at h; exact no h
        rw [if_neg hi] at h
        refine va_iald (f := (σ 7)) hx hb hK hP 4 0 rfl rfl (i := x5) hi dX5_node_40 ?_
        refine lv_iload_n hx hb dX5_node_41 rfl (lv_at hl 2 rfl) ?_
        refine lv_icmp_ne (tgt := 59) hx hb dX5_node_42 (by decide) (fun hc9 => ?_) (fun hc9 => ?_)
        · rw [if_neg hc9] at h
          exact k_X5_node_59 C0 N (f_X5_node_17 N n) ih σ x1 x2 x3 x4 x5 _ _ _ hP hD hS (lv_sub hl [0, 1, 2, 3, 4, 5] rfl) h
        · rw [if_pos hc9] at h
          refine lv_aload_n hx hb dX5_node_45 rfl (lv_at hl 0 rfl) ?_
          refine va_get (D := D) (ci := 5) (v := .ref (a5 9)) (C := RX5) (T := TX5) (N := 30) hx hb hts in_X5_node_X5 hown hK hP 0 rfl rfl 8 (by decide) (hts (.fieldLink RX5 26 "TermLoomModel" "right" "[I") (by decide +kernel)) (fun _ h9 => h9) rfl dX5_node_46 ?_
          refine lv_iload hx hb dX5_node_49 (lv_at hl 5 rfl) ?_
          by_cases hi : x5 < 0 ∨ 16000 ≤ (x5).toNatClampNeg
          · rw [if_pos hi] at h; exact no h
          rw [if_neg hi] at h
          refine va_iald (f := (σ 8)) hx hb hK hP 5 0 rfl rfl (i := x5) hi dX5_node_51 ?_
          refine lv_iload_n hx hb dX5_node_52 rfl (lv_at hl 3 rfl) ?_
          refine lv_icmp_ne (tgt := 59) hx hb dX5_node_53 (by decide) (fun hc10 => ?_) (fun hc10 => ?_)
          · rw [if_neg hc10] at h
            exact k_X5_node_59 C0 N (f_X5_node_17 N n) ih σ x1 x2 x3 x4 x5 _ _ _ hP hD hS (lv_sub hl [0, 1, 2, 3, 4, 5] rfl) h
          · rw [if_pos hc10] at h
            refine lv_iload hx hb dX5_node_56 (lv_at hl 5 rfl) ?_
            obtain ⟨rfl, rfl⟩ := so h
            exact ret_i C0 hP hD hS dX5_node_58
set_option maxHeartbeats 4000000 in
set_option maxRecDepth 100000 in
theorem c_X5_node (l : Launch) (D : va_G) (cI cZ : ClassId) (a5 : Nat → Nat) (N : Nat) (σ : St) (x1 x2 x3 : Int32) : MI l yX5_node wsX5_node ({ frames := 1, cells := 0, slots := 0, locals := 22 } : Room) D cI cZ (wX5 a5 cI cZ) [.ref (a5 0), .int x1, .int x2, .int x3] σ (f_X5_node N σ x1 x2 x3) := by
  refine MI.of (cc := cX5_node) (maxL := 7) (ret := (some .int)) (own := RX5) (by decide) rfl rfl (Nat.le_of_ble_eq_true rfl) ?_
  intro r u1 h p e s m args below meth c A C0 H locs ls hP hD hS hl
  obtain ⟨hx, hb, hml, hr, hown, hts, hlocks, hA, hK, hN⟩ := id C0
  have hl : lv_has ls 7 [(0, .ref (a5 0)), (1, .int x1), (2, .int x2), (3, .int x3)] := hl
  unfold f_X5_node at h
  refine lv_iload_n hx hb dX5_node_0 rfl (lv_at hl 1 rfl) ?_
  refine lv_iload_n hx hb dX5_node_1 rfl (lv_at hl 2 rfl) ?_
  refine lv_iload_n hx hb dX5_node_2 rfl (lv_at hl 3 rfl) ?_
  obtain ⟨q1, hq1, h⟩ := ob h
  refine mc_i (ws' := wX5 a5 cI cZ σ) (wr := ((wX5o a5 cI cZ σ) : va_W)) [] [0, 1, 2, 3, 4, 5, 6, 7, 8, 9, 10, 11, 12, 13, 14, 15, 16, 17, 18, 19, 20, 21, 22] [0, 1, 2, 3, 4, 5, 6, 7, 8, 9, 10, 11, 12, 13, 14, 15, 16, 17, 18, 19, 20, 21, 22] (va_runS (As := [.int x1, .int x2, .int x3]) (rest := []) ⟨hx, hb, hml, hown, hts⟩ (c_X5_chainOf l D cI cZ N x1 x2 x3 q1.1 q1.2 hq1 H.size) (va_cwS 3 hts gX5_node_X5_chainOf rfl rfl rfl (by decide +kernel) ⟨Nat.le_of_ble_eq_true rfl, Nat.le_of_ble_eq_true rfl⟩) (pS [] hP hD hK hN rfl rfl) rfl rfl hl.1 rfl (lv_room (Nat.le_of_ble_eq_true rfl)) dX5_node_3 ⟨Nat.le_of_ble_eq_true rfl, Nat.le_of_ble_eq_true rfl⟩) hP hD hS hA rfl rfl rfl (by decide) rfl rfl (fun H locs hP hD hS => ?_)
  refine lv_istore (lv' := [(4, .int q1.1), (0, .ref (a5 0)), (1, .int x1), (2, .int x2), (3, .int x3)]) hx hb dX5_node_6 hl (by decide) rfl (fun ls hl => ?_)
  refine lv_aload_n hx hb dX5_node_8 rfl (lv_at hl 1 rfl) ?_
  refine va_get (D := D) (ci := 5) (v := .ref (a5 13)) (C := RX5) (T := TX5) (N := 30) hx hb hts in_X5_node_X5 hown hK hP 0 rfl rfl 12 (by decide) (hts (.fieldLink RX5 38 "TermLoomModel" "chain" "[I") (by decide +kernel)) (fun _ h9 => h9) rfl dX5_node_9 ?_
  refine lv_iload hx hb dX5_node_12 (lv_at hl 0 rfl) ?_
  by_cases hi : q1.1 < 0 ∨ 4096 ≤ (q1.1).toNatClampNeg
  · rw [if_pos hi] at h; exact no h
  rw [if_neg hi] at h
  refine va_iald (f := (σ 12)) hx hb hK hP 9 0 rfl rfl (i := q1.1) hi dX5_node_14 ?_
  refine lv_istore (lv' := [(5, .int (σ 12 (q1.1).toNatClampNeg)), (4, .int q1.1), (0, .ref (a5 0)), (1, .int x1), (2, .int x2), (3, .int x3)]) hx hb dX5_node_15 hl (by decide) rfl (fun ls hl => ?_)
  exact k_X5_node_17 C0 N N σ x1 x2 x3 q1.1 (σ 12 (q1.1).toNatClampNeg) _ _ _ hP hD hS (lv_sub hl [2, 3, 4, 5, 1, 0] rfl) h

theorem in_X5_cut_X5 : ∀ w ∈ u_ws RX5 TX5 30, w ∈ wsX5_cut := by decide +kernel
def f_X5_cut_0 (N : Nat) : Nat → St → Int32 → Option (St)
  | 0, _, _ => none
  | n + 1, σ, x1 => if (σ 5 0) ≤ x1 then some σ else bnd (up2 σ 5 0 ((σ 5 0) - 1)) (fun σ2 => if (σ2 5 0) < 0 ∨ 16000 ≤ ((σ2 5 0)).toNatClampNeg then none else if (σ2 5 0) < 0 ∨ 16000 ≤ ((σ2 5 0)).toNatClampNeg then none else if (σ2 5 0) < 0 ∨ 16000 ≤ ((σ2 5 0)).toNatClampNeg then none else (f_X5_chainOf N (σ2 6 ((σ2 5 0)).toNatClampNeg) (σ2 7 ((σ2 5 0)).toNatClampNeg) (σ2 8 ((σ2 5 0)).toNatClampNeg)).bind (fun q3 => if (σ2 5 0) < 0 ∨ 16000 ≤ ((σ2 5 0)).toNatClampNeg then none else if q3.1 < 0 ∨ 4096 ≤ (q3.1).toNatClampNeg then none else bnd (up2 σ2 12 (q3.1).toNatClampNeg (σ2 11 ((σ2 5 0)).toNatClampNeg)) (fun σ4 => f_X5_cut_0 N n σ4 x1)))
def f_X5_cut (N : Nat) (σ : St) (x1 : Int32) : Option (St) := f_X5_cut_0 N N σ x1
abbrev KP_X5_cut_0 (p : Program) (l : Launch) (e : Env) (s : State) (m : MethodId) (args : Array Value) (below : List Frame) (meth : Method) (c : Code) (D : va_G) (cI cZ : ClassId) (a5 : Nat → Nat) (A : Nat → Prop) (u1 : St) (K : St → Int32 → Option (St)) : Prop := ∀ (σ : St) (x1 : Int32) (H : Heap) (locs : List Loc) (ls : Array Slot), va_P D vwCl (wX5 a5 cI cZ σ) H → va_D A (wX5 a5 cI cZ σ) → va_S A s.heap H locs → lv_has ls 2 [(0, .ref (a5 0)), (1, .int x1)] → K σ x1 = some u1 → W p l e ({ frames := 1, cells := 0, slots := 0, locals := 22 } : Room) s m args below meth c H locs 0 0 (QV below args s D cI cZ (wX5 a5 cI cZ) A u1) (F0 m 0 ls [])
set_option maxHeartbeats 4000000 in
set_option maxRecDepth 100000 in
theorem k_X5_cut_0 {p : Program} {l : Launch} {e : Env} {s : State} {m : MethodId} {args : Array Value} {below : List Frame} {meth : Method} {c : Code} {D : va_G} {cI cZ : ClassId} {a5 : Nat → Nat} {A : Nat → Prop} {u1 : St} (C0 : mB p s m args meth c D cI cZ A cX5_cut 2 none wsX5_cut RX5) (N : Nat) : ∀ n : Nat, KP_X5_cut_0 p l e s m args below meth c D cI cZ a5 A u1 (f_X5_cut_0 N n) := by
  obtain ⟨hx, hb, hml, hr, hown, hts, hlocks, hA, hK, hN⟩ := id C0
  intro n
  induction n with
  | zero =>
    intro σ x1 H locs ls hP hD hS hl h
    exact no (show (none : Option (St)) = _ from h)
  | succ n ih =>
    intro σ x1 H locs ls hP hD hS hl h
    rw [f_X5_cut_0] at h
    refine lv_aload_n hx hb dX5_cut_0 rfl (lv_at hl 0 rfl) ?_
    refine va_get (D := D) (ci := 5) (v := .int (σ 5 0)) (C := RX5) (T := TX5) (N := 30) hx hb hts in_X5_cut_X5 hown hK hP 0 rfl rfl 5 (by decide) (hts (.fieldLink RX5 96 "TermLoomModel" "nodes" "I") (by decide +kernel)) (fun _ h9 => h9) rfl dX5_cut_1 ?_
    refine lv_iload_n hx hb dX5_cut_4 rfl (lv_at hl 1 rfl) ?_
    refine lv_icmp_le (tgt := 65) hx hb dX5_cut_5 (by decide) (fun hc1 => ?_) (fun hc1 => ?_)
    · rw [if_pos hc1] at h
      obtain rfl := so1 h
      exact ret_v C0 hP hD hS dX5_cut_65
    · rw [if_neg hc1] at h
      refine lv_aload_n hx hb dX5_cut_8 rfl (lv_at hl 0 rfl) ?_
      refine lv_dup hx hb dX5_cut_9 rfl ?_
      refine va_get (D := D) (ci := 5) (v := .int (σ 5 0)) (C := RX5) (T := TX5) (N := 30) hx hb hts in_X5_cut_X5 hown hK hP 0 rfl rfl 5 (by decide) (hts (.fieldLink RX5 96 "TermLoomModel" "nodes" "I") (by decide +kernel)) (fun _ h9 => h9) rfl dX5_cut_10 ?_
      refine lv_iconst (v := 1) hx hb dX5_cut_13 rfl ?_
      refine lv_isub hx hb dX5_cut_14 ?_
      refine va_put (D := D) (ci := 5) (v := .int ((σ 5 0) - 1)) (ty := .int) (C := RX5) (T := TX5) (N := 30) hx hb hts in_X5_cut_X5 tyX5 tyX5_ok nmX5 hown hK hP hD hS 0 rfl rfl 5 (by decide) (hts (.fieldLink RX5 96 "TermLoomModel" "nodes" "I") (by decide +kernel)) (fun _ h9 => h9) rfl (by decide +kernel) rfl rfl (Nat.le_of_ble_eq_true rfl) dX5_cut_15 (fun H locs hP hD hS => ?_)
      obtain ⟨σ2, eσ2, h⟩ := bn h
      have hP : va_P D vwCl (wX5 a5 cI cZ σ2) H := by rw [eσ2]; exact hP
      have hD : va_D A (wX5 a5 cI cZ σ2) := by rw [eσ2]; exact hD
      refine lv_aload_n hx hb dX5_cut_18 rfl (lv_at hl 0 rfl) ?_
      refine va_get (D := D) (ci := 5) (v := .ref (a5 13)) (C := RX5) (T := TX5) (N := 30) hx hb hts in_X5_cut_X5 hown hK hP 0 rfl rfl 12 (by decide) (hts (.fieldLink RX5 38 "TermLoomModel" "chain" "[I") (by decide +kernel)) (fun _ h9 => h9) rfl dX5_cut_19 ?_
      refine lv_aload_n hx hb dX5_cut_22 rfl (lv_at hl 0 rfl) ?_
      refine va_get (D := D) (ci := 5) (v := .ref (a5 7)) (C := RX5) (T := TX5) (N := 30) hx hb hts in_X5_cut_X5 hown hK hP 0 rfl rfl 6 (by decide) (hts (.fieldLink RX5 20 "TermLoomModel" "head" "[I") (by decide +kernel)) (fun _ h9 => h9) rfl dX5_cut_23 ?_
      refine lv_aload_n hx hb dX5_cut_26 rfl (lv_at hl 0 rfl) ?_
      refine va_get (D := D) (ci := 5) (v := .int (σ2 5 0)) (C := RX5) (T := TX5) (N := 30) hx hb hts in_X5_cut_X5 hown hK hP 0 rfl rfl 5 (by decide) (hts (.fieldLink RX5 96 "TermLoomModel" "nodes" "I") (by decide +kernel)) (fun _ h9 => h9) rfl dX5_cut_27 ?_
      by_cases hi : (σ2 5 0) < 0 ∨ 16000 ≤ ((σ2 5 0)).toNatClampNeg
      · rw [if_pos hi] at h; exact no h
      rw [if_neg hi] at h
      refine va_iald (f := (σ2 6)) hx hb hK hP 3 0 rfl rfl (i := (σ2 5 0)) hi dX5_cut_30 ?_
      refine lv_aload_n hx hb dX5_cut_31 rfl (lv_at hl 0 rfl) ?_
      refine va_get (D := D) (ci := 5) (v := .ref (a5 8)) (C := RX5) (T := TX5) (N := 30) hx hb hts in_X5_cut_X5 hown hK hP 0 rfl rfl 7 (by decide) (hts (.fieldLink RX5 23 "TermLoomModel" "left" "[I") (by decide +kernel)) (fun _ h9 => h9) rfl dX5_cut_32 ?_
      refine lv_aload_n hx hb dX5_cut_35 rfl (lv_at hl 0 rfl) ?_
      refine va_get (D := D) (ci := 5) (v := .int (σ2 5 0)) (C := RX5) (T := TX5) (N := 30) hx hb hts in_X5_cut_X5 hown hK hP 0 rfl rfl 5 (by decide) (hts (.fieldLink RX5 96 "TermLoomModel" "nodes" "I") (by decide +kernel)) (fun _ h9 => h9) rfl dX5_cut_36 ?_
      by_cases hi : (σ2 5 0) < 0 ∨ 16000 ≤ ((σ2 5 0)).toNatClampNeg
      · rw [if_pos hi] at h; exact no h
      rw [if_neg hi] at h
      refine va_iald (f := (σ2 7)) hx hb hK hP 4 0 rfl rfl (i := (σ2 5 0)) hi dX5_cut_39 ?_
      refine lv_aload_n hx hb dX5_cut_40 rfl (lv_at hl 0 rfl) ?_
      refine va_get (D := D) (ci := 5) (v := .ref (a5 9)) (C := RX5) (T := TX5) (N := 30) hx hb hts in_X5_cut_X5 hown hK hP 0 rfl rfl 8 (by decide) (hts (.fieldLink RX5 26 "TermLoomModel" "right" "[I") (by decide +kernel)) (fun _ h9 => h9) rfl dX5_cut_41 ?_
      refine lv_aload_n hx hb dX5_cut_44 rfl (lv_at hl 0 rfl) ?_
      refine va_get (D := D) (ci := 5) (v := .int (σ2 5 0)) (C := RX5) (T := TX5) (N := 30) hx hb hts in_X5_cut_X5 hown hK hP 0 rfl rfl 5 (by decide) (hts (.fieldLink RX5 96 "TermLoomModel" "nodes" "I") (by decide +kernel)) (fun _ h9 => h9) rfl dX5_cut_45 ?_
      by_cases hi : (σ2 5 0) < 0 ∨ 16000 ≤ ((σ2 5 0)).toNatClampNeg
      · rw [if_pos hi] at h; exact no h
      rw [if_neg hi] at h
      refine va_iald (f := (σ2 8)) hx hb hK hP 5 0 rfl rfl (i := (σ2 5 0)) hi dX5_cut_48 ?_
      obtain ⟨q3, hq3, h⟩ := ob h
      refine mc_i (ws' := wX5 a5 cI cZ σ2) (wr := ((wX5o a5 cI cZ σ2) : va_W)) [] [0, 1, 2, 3, 4, 5, 6, 7, 8, 9, 10, 11, 12, 13, 14, 15, 16, 17, 18, 19, 20, 21, 22] [0, 1, 2, 3, 4, 5, 6, 7, 8, 9, 10, 11, 12, 13, 14, 15, 16, 17, 18, 19, 20, 21, 22] (va_runS (As := [.int (σ2 6 ((σ2 5 0)).toNatClampNeg), .int (σ2 7 ((σ2 5 0)).toNatClampNeg), .int (σ2 8 ((σ2 5 0)).toNatClampNeg)]) (rest := [.ref (a5 13)]) ⟨hx, hb, hml, hown, hts⟩ (c_X5_chainOf l D cI cZ N (σ2 6 ((σ2 5 0)).toNatClampNeg) (σ2 7 ((σ2 5 0)).toNatClampNeg) (σ2 8 ((σ2 5 0)).toNatClampNeg) q3.1 q3.2 hq3 H.size) (va_cwS 3 hts gX5_cut_X5_chainOf rfl rfl rfl (by decide +kernel) ⟨Nat.le_of_ble_eq_true rfl, Nat.le_of_ble_eq_true rfl⟩) (pS [] hP hD hK hN rfl rfl) rfl rfl hl.1 rfl (lv_room (Nat.le_of_ble_eq_true rfl)) dX5_cut_49 ⟨Nat.le_of_ble_eq_true rfl, Nat.le_of_ble_eq_true rfl⟩) hP hD hS hA rfl rfl rfl (by decide) rfl rfl (fun H locs hP hD hS => ?_)
      refine lv_aload_n hx hb dX5_cut_52 rfl (lv_at hl 0 rfl) ?_
      refine va_get (D := D) (ci := 5) (v := .ref (a5 12)) (C := RX5) (T := TX5) (N := 30) hx hb hts in_X5_cut_X5 hown hK hP 0 rfl rfl 11 (by decide) (hts (.fieldLink RX5 35 "TermLoomModel" "behind" "[I") (by decide +kernel)) (fun _ h9 => h9) rfl dX5_cut_53 ?_
      refine lv_aload_n hx hb dX5_cut_56 rfl (lv_at hl 0 rfl) ?_
      refine va_get (D := D) (ci := 5) (v := .int (σ2 5 0)) (C := RX5) (T := TX5) (N := 30) hx hb hts in_X5_cut_X5 hown hK hP 0 rfl rfl 5 (by decide) (hts (.fieldLink RX5 96 "TermLoomModel" "nodes" "I") (by decide +kernel)) (fun _ h9 => h9) rfl dX5_cut_57 ?_
      by_cases hi : (σ2 5 0) < 0 ∨ 16000 ≤ ((σ2 5 0)).toNatClampNeg
      · rw [if_pos hi] at h; exact no h
      rw [if_neg hi] at h
      refine va_iald (f := (σ2 11)) hx hb hK hP 8 0 rfl rfl (i := (σ2 5 0)) hi dX5_cut_60 ?_
      by_cases hi : q3.1 < 0 ∨ 4096 ≤ (q3.1).toNatClampNeg
      · rw [if_pos hi] at h; exact no h
      rw [if_neg hi] at h
      refine va_iast (f := (σ2 12)) hx hb hK hP hD hS 9 0 rfl rfl (i := q3.1) (x := (σ2 11 ((σ2 5 0)).toNatClampNeg)) hi dX5_cut_61 (fun H locs hP hD hS => ?_)
      obtain ⟨σ4, eσ4, h⟩ := bn h
      have hP : va_P D vwCl (wX5 a5 cI cZ σ4) H := by rw [eσ4]; exact hP
      have hD : va_D A (wX5 a5 cI cZ σ4) := by rw [eσ4]; exact hD
      refine lv_goto (tgt := 0) hx hb dX5_cut_62 (by decide) ?_
      exact ih σ4 x1 _ _ _ hP hD hS (lv_sub hl [0, 1] rfl) h
set_option maxHeartbeats 4000000 in
set_option maxRecDepth 100000 in
theorem c_X5_cut (l : Launch) (D : va_G) (cI cZ : ClassId) (a5 : Nat → Nat) (N : Nat) (σ : St) (x1 : Int32) : MV l yX5_cut wsX5_cut ({ frames := 1, cells := 0, slots := 0, locals := 22 } : Room) D cI cZ (wX5 a5 cI cZ) [.ref (a5 0), .int x1] σ (f_X5_cut N σ x1) := by
  refine MV.of (cc := cX5_cut) (maxL := 2) (ret := none) (own := RX5) (by decide) rfl rfl (Nat.le_of_ble_eq_true rfl) ?_
  intro u1 h p e s m args below meth c A C0 H locs ls hP hD hS hl
  obtain ⟨hx, hb, hml, hr, hown, hts, hlocks, hA, hK, hN⟩ := id C0
  have hl : lv_has ls 2 [(0, .ref (a5 0)), (1, .int x1)] := hl
  unfold f_X5_cut at h
  exact k_X5_cut_0 C0 N N σ x1 _ _ _ hP hD hS (lv_sub hl [0, 1] rfl) h

theorem in_X5_isSmall_X5 : ∀ w ∈ u_ws RX5 TX5 30, w ∈ wsX5_isSmall := by decide +kernel
def f_X5_isSmall_28 (N : Nat) (σ : St) (s0 : Int32) : Option (Int32 × St) := if s0 = 0 ∨ s0 = 1 then some (s0, σ) else none
def f_X5_isSmall_27 (N : Nat) (σ : St) : Option (Int32 × St) := f_X5_isSmall_28 N σ 0
def f_X5_isSmall (N : Nat) (σ : St) (x1 : Int32) : Option (Int32 × St) := if x1 < 0 ∨ 16000 ≤ (x1).toNatClampNeg then none else if 200 < (σ 9 (x1).toNatClampNeg) then f_X5_isSmall_27 N σ else if x1 < 0 ∨ 16000 ≤ (x1).toNatClampNeg then none else if 24 < (σ 10 (x1).toNatClampNeg) then f_X5_isSmall_27 N σ else f_X5_isSmall_28 N σ 1
abbrev KP_X5_isSmall_28 (p : Program) (l : Launch) (e : Env) (s : State) (m : MethodId) (args : Array Value) (below : List Frame) (meth : Method) (c : Code) (D : va_G) (cI cZ : ClassId) (a5 : Nat → Nat) (A : Nat → Prop) (r : Int32) (u1 : St) (K : St → Int32 → Option (Int32 × St)) : Prop := ∀ (σ : St) (s0 : Int32) (H : Heap) (locs : List Loc) (ls : Array Slot), va_P D vwCl (wX5 a5 cI cZ σ) H → va_D A (wX5 a5 cI cZ σ) → va_S A s.heap H locs → lv_has ls 2 [] → K σ s0 = some (r, u1) → W p l e ({ frames := 0, cells := 0, slots := 0, locals := 0 } : Room) s m args below meth c H locs 0 0 (QI below args s D cI cZ (wX5 a5 cI cZ) A r u1) (F0 m 28 ls [.int s0])
abbrev KP_X5_isSmall_27 (p : Program) (l : Launch) (e : Env) (s : State) (m : MethodId) (args : Array Value) (below : List Frame) (meth : Method) (c : Code) (D : va_G) (cI cZ : ClassId) (a5 : Nat → Nat) (A : Nat → Prop) (r : Int32) (u1 : St) (K : St → Option (Int32 × St)) : Prop := ∀ (σ : St) (H : Heap) (locs : List Loc) (ls : Array Slot), va_P D vwCl (wX5 a5 cI cZ σ) H → va_D A (wX5 a5 cI cZ σ) → va_S A s.heap H locs → lv_has ls 2 [] → K σ = some (r, u1) → W p l e ({ frames := 0, cells := 0, slots := 0, locals := 0 } : Room) s m args below meth c H locs 0 0 (QI below args s D cI cZ (wX5 a5 cI cZ) A r u1) (F0 m 27 ls [])
set_option maxHeartbeats 4000000 in
set_option maxRecDepth 100000 in
theorem k_X5_isSmall_28 {p : Program} {l : Launch} {e : Env} {s : State} {m : MethodId} {args : Array Value} {below : List Frame} {meth : Method} {c : Code} {D : va_G} {cI cZ : ClassId} {a5 : Nat → Nat} {A : Nat → Prop} {r : Int32} {u1 : St} (C0 : mB p s m args meth c D cI cZ A cX5_isSmall 2 (some .boolean) wsX5_isSmall RX5) (N : Nat) : KP_X5_isSmall_28 p l e s m args below meth c D cI cZ a5 A r u1 (f_X5_isSmall_28 N) := by
  obtain ⟨hx, hb, hml, hr, hown, hts, hlocks, hA, hK, hN⟩ := id C0
  intro σ s0 H locs ls hP hD hS hl h
  unfold f_X5_isSmall_28 at h
  by_cases hz : s0 = 0 ∨ s0 = 1
  · rw [if_pos hz] at h
    obtain ⟨rfl, rfl⟩ := so h
    exact ret_z C0 hz hP hD hS dX5_isSmall_28
  · rw [if_neg hz] at h; exact no h
set_option maxHeartbeats 4000000 in
set_option maxRecDepth 100000 in
theorem k_X5_isSmall_27 {p : Program} {l : Launch} {e : Env} {s : State} {m : MethodId} {args : Array Value} {below : List Frame} {meth : Method} {c : Code} {D : va_G} {cI cZ : ClassId} {a5 : Nat → Nat} {A : Nat → Prop} {r : Int32} {u1 : St} (C0 : mB p s m args meth c D cI cZ A cX5_isSmall 2 (some .boolean) wsX5_isSmall RX5) (N : Nat) : KP_X5_isSmall_27 p l e s m args below meth c D cI cZ a5 A r u1 (f_X5_isSmall_27 N) := by
  obtain ⟨hx, hb, hml, hr, hown, hts, hlocks, hA, hK, hN⟩ := id C0
  intro σ H locs ls hP hD hS hl h
  unfold f_X5_isSmall_27 at h
  refine lv_iconst (v := 0) hx hb dX5_isSmall_27 rfl ?_
  exact k_X5_isSmall_28 C0 N σ 0 _ _ _ hP hD hS (lv_sub hl [] rfl) h
set_option maxHeartbeats 4000000 in
set_option maxRecDepth 100000 in
theorem c_X5_isSmall (l : Launch) (D : va_G) (cI cZ : ClassId) (a5 : Nat → Nat) (N : Nat) (σ : St) (x1 : Int32) : MI l yX5_isSmall wsX5_isSmall ({ frames := 0, cells := 0, slots := 0, locals := 0 } : Room) D cI cZ (wX5 a5 cI cZ) [.ref (a5 0), .int x1] σ (f_X5_isSmall N σ x1) := by
  refine MI.of (cc := cX5_isSmall) (maxL := 2) (ret := (some .boolean)) (own := RX5) (by decide) rfl rfl (Nat.le_of_ble_eq_true rfl) ?_
  intro r u1 h p e s m args below meth c A C0 H locs ls hP hD hS hl
  obtain ⟨hx, hb, hml, hr, hown, hts, hlocks, hA, hK, hN⟩ := id C0
  have hl : lv_has ls 2 [(0, .ref (a5 0)), (1, .int x1)] := hl
  unfold f_X5_isSmall at h
  refine lv_aload_n hx hb dX5_isSmall_0 rfl (lv_at hl 0 rfl) ?_
  refine va_get (D := D) (ci := 5) (v := .ref (a5 10)) (C := RX5) (T := TX5) (N := 30) hx hb hts in_X5_isSmall_X5 hown hK hP 0 rfl rfl 9 (by decide) (hts (.fieldLink RX5 29 "TermLoomModel" "wide" "[I") (by decide +kernel)) (fun _ h9 => h9) rfl dX5_isSmall_1 ?_
  refine lv_iload_n hx hb dX5_isSmall_4 rfl (lv_at hl 1 rfl) ?_
  by_cases hi : x1 < 0 ∨ 16000 ≤ (x1).toNatClampNeg
  · rw [if_pos hi] at h; exact no h
  rw [if_neg hi] at h
  refine va_iald (f := (σ 9)) hx hb hK hP 6 0 rfl rfl (i := x1) hi dX5_isSmall_5 ?_
  refine lv_sipush (v := 200) hx hb dX5_isSmall_6 rfl ?_
  refine lv_icmp_gt (tgt := 27) hx hb dX5_isSmall_9 (by decide) (fun hc1 => ?_) (fun hc1 => ?_)
  · rw [if_pos hc1] at h
    exact k_X5_isSmall_27 C0 N σ _ _ _ hP hD hS (lv_sub hl [] rfl) h
  · rw [if_neg hc1] at h
    refine lv_aload_n hx hb dX5_isSmall_12 rfl (lv_at hl 0 rfl) ?_
    refine va_get (D := D) (ci := 5) (v := .ref (a5 11)) (C := RX5) (T := TX5) (N := 30) hx hb hts in_X5_isSmall_X5 hown hK hP 0 rfl rfl 10 (by decide) (hts (.fieldLink RX5 32 "TermLoomModel" "high" "[I") (by decide +kernel)) (fun _ h9 => h9) rfl dX5_isSmall_13 ?_
    refine lv_iload_n hx hb dX5_isSmall_16 rfl (lv_at hl 1 rfl) ?_
    by_cases hi : x1 < 0 ∨ 16000 ≤ (x1).toNatClampNeg
    · rw [if_pos hi] at h; exact no h
    rw [if_neg hi] at h
    refine va_iald (f := (σ 10)) hx hb hK hP 7 0 rfl rfl (i := x1) hi dX5_isSmall_17 ?_
    refine lv_bipush (v := 24) hx hb dX5_isSmall_18 rfl ?_
    refine lv_icmp_gt (tgt := 27) hx hb dX5_isSmall_20 (by decide) (fun hc2 => ?_) (fun hc2 => ?_)
    · rw [if_pos hc2] at h
      exact k_X5_isSmall_27 C0 N σ _ _ _ hP hD hS (lv_sub hl [] rfl) h
    · rw [if_neg hc2] at h
      refine lv_iconst (v := 1) hx hb dX5_isSmall_23 rfl ?_
      refine lv_goto (tgt := 28) hx hb dX5_isSmall_24 (by decide) ?_
      exact k_X5_isSmall_28 C0 N σ 1 _ _ _ hP hD hS (lv_sub hl [] rfl) h

theorem in_X5_keepType_X5 : ∀ w ∈ u_ws RX5 TX5 30, w ∈ wsX5_keepType := by decide +kernel
def f_X5_keepType_35 (N : Nat) (σ : St) (x2 : Int32) : Option (Int32 × St) := (f_X5_fail N σ x2).bind (fun q1 => some (q1.1, q1.2))
def f_X5_keepType (N : Nat) (σ : St) (x1 x2 : Int32) : Option (Int32 × St) := (f_X5_isSmall N σ x1).bind (fun q1 => if q1.1 = 0 then f_X5_keepType_35 N q1.2 x2 else if 8000 < (q1.2 5 0) then f_X5_keepType_35 N q1.2 x2 else if x1 < 0 ∨ 16000 ≤ (x1).toNatClampNeg then none else if ((q1.2 14 0) + (q1.2 9 (x1).toNatClampNeg)) ≤ 6000 then if (q1.2 13 0) < 0 ∨ 4200 ≤ ((q1.2 13 0)).toNatClampNeg then none else bnd (up2 q1.2 15 ((q1.2 13 0)).toNatClampNeg x1) (fun σ5 => if x1 < 0 ∨ 16000 ≤ (x1).toNatClampNeg then none else bnd (up2 σ5 14 0 ((σ5 14 0) + (σ5 9 (x1).toNatClampNeg))) (fun σ6 => bnd (up2 σ6 13 0 ((σ6 13 0) + 1)) (fun σ7 => some (((σ7 13 0) - 1), σ7)))) else f_X5_keepType_35 N q1.2 x2)
abbrev KP_X5_keepType_35 (p : Program) (l : Launch) (e : Env) (s : State) (m : MethodId) (args : Array Value) (below : List Frame) (meth : Method) (c : Code) (D : va_G) (cI cZ : ClassId) (a5 : Nat → Nat) (A : Nat → Prop) (r : Int32) (u1 : St) (K : St → Int32 → Option (Int32 × St)) : Prop := ∀ (σ : St) (x2 : Int32) (H : Heap) (locs : List Loc) (ls : Array Slot), va_P D vwCl (wX5 a5 cI cZ σ) H → va_D A (wX5 a5 cI cZ σ) → va_S A s.heap H locs → lv_has ls 3 [(0, .ref (a5 0)), (2, .int x2)] → K σ x2 = some (r, u1) → W p l e ({ frames := 1, cells := 0, slots := 0, locals := 21 } : Room) s m args below meth c H locs 0 0 (QI below args s D cI cZ (wX5 a5 cI cZ) A r u1) (F0 m 35 ls [])
set_option maxHeartbeats 4000000 in
set_option maxRecDepth 100000 in
theorem k_X5_keepType_35 {p : Program} {l : Launch} {e : Env} {s : State} {m : MethodId} {args : Array Value} {below : List Frame} {meth : Method} {c : Code} {D : va_G} {cI cZ : ClassId} {a5 : Nat → Nat} {A : Nat → Prop} {r : Int32} {u1 : St} (C0 : mB p s m args meth c D cI cZ A cX5_keepType 3 (some .int) wsX5_keepType RX5) (N : Nat) : KP_X5_keepType_35 p l e s m args below meth c D cI cZ a5 A r u1 (f_X5_keepType_35 N) := by
  obtain ⟨hx, hb, hml, hr, hown, hts, hlocks, hA, hK, hN⟩ := id C0
  intro σ x2 H locs ls hP hD hS hl h
  unfold f_X5_keepType_35 at h
  refine lv_aload_n hx hb dX5_keepType_35 rfl (lv_at hl 0 rfl) ?_
  refine lv_iload_n hx hb dX5_keepType_36 rfl (lv_at hl 1 rfl) ?_
  obtain ⟨q1, hq1, h⟩ := ob h
  refine mc_i (ws' := wX5 a5 cI cZ q1.2) (wr := ([] : va_W)) [0, 1, 2, 3, 4, 5, 6, 7, 8, 9, 10, 11, 12, 13, 14, 15, 16, 17, 18, 19, 20, 21, 22] [] [0, 1, 2, 3, 4, 5, 6, 7, 8, 9, 10, 11, 12, 13, 14, 15, 16, 17, 18, 19, 20, 21, 22] (va_runV (As := [.int x2]) (rest := []) ⟨hx, hb, hml, hown, hts⟩ (c_X5_fail l D cI cZ a5 N σ x2 q1.1 q1.2 hq1 H.size) (cwV 1 hts gX5_keepType_X5_fail rfl rfl rfl (by decide +kernel) ⟨Nat.le_of_ble_eq_true rfl, Nat.le_of_ble_eq_true rfl⟩) (pV [0, 1, 2, 3, 4, 5, 6, 7, 8, 9, 10, 11, 12, 13, 14, 15, 16, 17, 18, 19, 20, 21, 22] hP hD hK hN rfl rfl rfl rfl) rfl rfl hl.1 rfl (lv_room (Nat.le_of_ble_eq_true rfl)) dX5_keepType_37 ⟨Nat.le_of_ble_eq_true rfl, Nat.le_of_ble_eq_true rfl⟩) hP hD hS hA rfl rfl rfl (by decide) rfl rfl (fun H locs hP hD hS => ?_)
  obtain ⟨rfl, rfl⟩ := so h
  exact ret_i C0 hP hD hS dX5_keepType_40
set_option maxHeartbeats 4000000 in
set_option maxRecDepth 100000 in
theorem c_X5_keepType (l : Launch) (D : va_G) (cI cZ : ClassId) (a5 : Nat → Nat) (N : Nat) (σ : St) (x1 x2 : Int32) : MI l yX5_keepType wsX5_keepType ({ frames := 1, cells := 0, slots := 0, locals := 21 } : Room) D cI cZ (wX5 a5 cI cZ) [.ref (a5 0), .int x1, .int x2] σ (f_X5_keepType N σ x1 x2) := by
  refine MI.of (cc := cX5_keepType) (maxL := 3) (ret := (some .int)) (own := RX5) (by decide) rfl rfl (Nat.le_of_ble_eq_true rfl) ?_
  intro r u1 h p e s m args below meth c A C0 H locs ls hP hD hS hl
  obtain ⟨hx, hb, hml, hr, hown, hts, hlocks, hA, hK, hN⟩ := id C0
  have hl : lv_has ls 3 [(0, .ref (a5 0)), (1, .int x1), (2, .int x2)] := hl
  unfold f_X5_keepType at h
  refine lv_aload_n hx hb dX5_keepType_0 rfl (lv_at hl 0 rfl) ?_
  refine lv_iload_n hx hb dX5_keepType_1 rfl (lv_at hl 1 rfl) ?_
  obtain ⟨q1, hq1, h⟩ := ob h
  refine mc_i (ws' := wX5 a5 cI cZ q1.2) (wr := ([] : va_W)) [0, 1, 2, 3, 4, 5, 6, 7, 8, 9, 10, 11, 12, 13, 14, 15, 16, 17, 18, 19, 20, 21, 22] [] [0, 1, 2, 3, 4, 5, 6, 7, 8, 9, 10, 11, 12, 13, 14, 15, 16, 17, 18, 19, 20, 21, 22] (va_runV (As := [.int x1]) (rest := []) ⟨hx, hb, hml, hown, hts⟩ (c_X5_isSmall l D cI cZ a5 N σ x1 q1.1 q1.2 hq1 H.size) (cwV 1 hts gX5_keepType_X5_isSmall rfl rfl rfl (by decide +kernel) ⟨Nat.le_of_ble_eq_true rfl, Nat.le_of_ble_eq_true rfl⟩) (pV [0, 1, 2, 3, 4, 5, 6, 7, 8, 9, 10, 11, 12, 13, 14, 15, 16, 17, 18, 19, 20, 21, 22] hP hD hK hN rfl rfl rfl rfl) rfl rfl hl.1 rfl (lv_room (Nat.le_of_ble_eq_true rfl)) dX5_keepType_2 ⟨Nat.le_of_ble_eq_true rfl, Nat.le_of_ble_eq_true rfl⟩) hP hD hS hA rfl rfl rfl (by decide) rfl rfl (fun H locs hP hD hS => ?_)
  refine lv_if_eq (tgt := 35) hx hb dX5_keepType_5 (by decide) (fun hc2 => ?_) (fun hc2 => ?_)
  · rw [if_pos hc2] at h
    exact k_X5_keepType_35 C0 N q1.2 x2 _ _ _ hP hD hS (lv_sub hl [0, 2] rfl) h
  · rw [if_neg hc2] at h
    refine lv_aload_n hx hb dX5_keepType_8 rfl (lv_at hl 0 rfl) ?_
    refine va_get (D := D) (ci := 5) (v := .int (q1.2 5 0)) (C := RX5) (T := TX5) (N := 30) hx hb hts in_X5_keepType_X5 hown hK hP 0 rfl rfl 5 (by decide) (hts (.fieldLink RX5 96 "TermLoomModel" "nodes" "I") (by decide +kernel)) (fun _ h9 => h9) rfl dX5_keepType_9 ?_
    refine lv_sipush (v := 8000) hx hb dX5_keepType_12 rfl ?_
    refine lv_icmp_gt (tgt := 35) hx hb dX5_keepType_15 (by decide) (fun hc3 => ?_) (fun hc3 => ?_)
    · rw [if_pos hc3] at h
      exact k_X5_keepType_35 C0 N q1.2 x2 _ _ _ hP hD hS (lv_sub hl [0, 2] rfl) h
    · rw [if_neg hc3] at h
      refine lv_aload_n hx hb dX5_keepType_18 rfl (lv_at hl 0 rfl) ?_
      refine va_get (D := D) (ci := 5) (v := .int (q1.2 14 0)) (C := RX5) (T := TX5) (N := 30) hx hb hts in_X5_keepType_X5 hown hK hP 0 rfl rfl 14 (by decide) (hts (.fieldLink RX5 103 "TermLoomModel" "typeSymbols" "I") (by decide +kernel)) (fun _ h9 => h9) rfl dX5_keepType_19 ?_
      refine lv_aload_n hx hb dX5_keepType_22 rfl (lv_at hl 0 rfl) ?_
      refine va_get (D := D) (ci := 5) (v := .ref (a5 10)) (C := RX5) (T := TX5) (N := 30) hx hb hts in_X5_keepType_X5 hown hK hP 0 rfl rfl 9 (by decide) (hts (.fieldLink RX5 29 "TermLoomModel" "wide" "[I") (by decide +kernel)) (fun _ h9 => h9) rfl dX5_keepType_23 ?_
      refine lv_iload_n hx hb dX5_keepType_26 rfl (lv_at hl 1 rfl) ?_
      by_cases hi : x1 < 0 ∨ 16000 ≤ (x1).toNatClampNeg
      · rw [if_pos hi] at h; exact no h
      rw [if_neg hi] at h
      refine va_iald (f := (q1.2 9)) hx hb hK hP 6 0 rfl rfl (i := x1) hi dX5_keepType_27 ?_
      refine lv_iadd hx hb dX5_keepType_28 ?_
      refine lv_sipush (v := 6000) hx hb dX5_keepType_29 rfl ?_
      refine lv_icmp_le (tgt := 41) hx hb dX5_keepType_32 (by decide) (fun hc4 => ?_) (fun hc4 => ?_)
      · rw [if_pos hc4] at h
        refine lv_aload_n hx hb dX5_keepType_41 rfl (lv_at hl 0 rfl) ?_
        refine va_get (D := D) (ci := 5) (v := .ref (a5 16)) (C := RX5) (T := TX5) (N := 30) hx hb hts in_X5_keepType_X5 hown hK hP 0 rfl rfl 15 (by decide) (hts (.fieldLink RX5 41 "TermLoomModel" "typeAt" "[I") (by decide +kernel)) (fun _ h9 => h9) rfl dX5_keepType_42 ?_
        refine lv_aload_n hx hb dX5_keepType_45 rfl (lv_at hl 0 rfl) ?_
        refine va_get (D := D) (ci := 5) (v := .int (q1.2 13 0)) (C := RX5) (T := TX5) (N := 30) hx hb hts in_X5_keepType_X5 hown hK hP 0 rfl rfl 13 (by decide) (hts (.fieldLink RX5 110 "TermLoomModel" "types" "I") (by decide +kernel)) (fun _ h9 => h9) rfl dX5_keepType_46 ?_
        refine lv_iload_n hx hb dX5_keepType_49 rfl (lv_at hl 1 rfl) ?_
        by_cases hi : (q1.2 13 0) < 0 ∨ 4200 ≤ ((q1.2 13 0)).toNatClampNeg
        · rw [if_pos hi] at h; exact no h
        rw [if_neg hi] at h
        refine va_iast (f := (q1.2 15)) hx hb hK hP hD hS 10 0 rfl rfl (i := (q1.2 13 0)) (x := x1) hi dX5_keepType_50 (fun H locs hP hD hS => ?_)
        obtain ⟨σ5, eσ5, h⟩ := bn h
        have hP : va_P D vwCl (wX5 a5 cI cZ σ5) H := by rw [eσ5]; exact hP
        have hD : va_D A (wX5 a5 cI cZ σ5) := by rw [eσ5]; exact hD
        refine lv_aload_n hx hb dX5_keepType_51 rfl (lv_at hl 0 rfl) ?_
        refine lv_dup hx hb dX5_keepType_52 rfl ?_
        refine va_get (D := D) (ci := 5) (v := .int (σ5 14 0)) (C := RX5) (T := TX5) (N := 30) hx hb hts in_X5_keepType_X5 hown hK hP 0 rfl rfl 14 (by decide) (hts (.fieldLink RX5 103 "TermLoomModel" "typeSymbols" "I") (by decide +kernel)) (fun _ h9 => h9) rfl dX5_keepType_53 ?_
        refine lv_aload_n hx hb dX5_keepType_56 rfl (lv_at hl 0 rfl) ?_
        refine va_get (D := D) (ci := 5) (v := .ref (a5 10)) (C := RX5) (T := TX5) (N := 30) hx hb hts in_X5_keepType_X5 hown hK hP 0 rfl rfl 9 (by decide) (hts (.fieldLink RX5 29 "TermLoomModel" "wide" "[I") (by decide +kernel)) (fun _ h9 => h9) rfl dX5_keepType_57 ?_
        refine lv_iload_n hx hb dX5_keepType_60 rfl (lv_at hl 1 rfl) ?_
        by_cases hi : x1 < 0 ∨ 16000 ≤ (x1).toNatClampNeg
        · rw [if_pos hi] at h; exact no h
        rw [if_neg hi] at h
        refine va_iald (f := (σ5 9)) hx hb hK hP 6 0 rfl rfl (i := x1) hi dX5_keepType_61 ?_
        refine lv_iadd hx hb dX5_keepType_62 ?_
        refine va_put (D := D) (ci := 5) (v := .int ((σ5 14 0) + (σ5 9 (x1).toNatClampNeg))) (ty := .int) (C := RX5) (T := TX5) (N := 30) hx hb hts in_X5_keepType_X5 tyX5 tyX5_ok nmX5 hown hK hP hD hS 0 rfl rfl 14 (by decide) (hts (.fieldLink RX5 103 "TermLoomModel" "typeSymbols" "I") (by decide +kernel)) (fun _ h9 => h9) rfl (by decide +kernel) rfl rfl (Nat.le_of_ble_eq_true rfl) dX5_keepType_63 (fun H locs hP hD hS => ?_)
        obtain ⟨σ6, eσ6, h⟩ := bn h
        have hP : va_P D vwCl (wX5 a5 cI cZ σ6) H := by rw [eσ6]; exact hP
        have hD : va_D A (wX5 a5 cI cZ σ6) := by rw [eσ6]; exact hD
        refine lv_aload_n hx hb dX5_keepType_66 rfl (lv_at hl 0 rfl) ?_
        refine lv_dup hx hb dX5_keepType_67 rfl ?_
        refine va_get (D := D) (ci := 5) (v := .int (σ6 13 0)) (C := RX5) (T := TX5) (N := 30) hx hb hts in_X5_keepType_X5 hown hK hP 0 rfl rfl 13 (by decide) (hts (.fieldLink RX5 110 "TermLoomModel" "types" "I") (by decide +kernel)) (fun _ h9 => h9) rfl dX5_keepType_68 ?_
        refine lv_iconst (v := 1) hx hb dX5_keepType_71 rfl ?_
        refine lv_iadd hx hb dX5_keepType_72 ?_
        refine va_put (D := D) (ci := 5) (v := .int ((σ6 13 0) + 1)) (ty := .int) (C := RX5) (T := TX5) (N := 30) hx hb hts in_X5_keepType_X5 tyX5 tyX5_ok nmX5 hown hK hP hD hS 0 rfl rfl 13 (by decide) (hts (.fieldLink RX5 110 "TermLoomModel" "types" "I") (by decide +kernel)) (fun _ h9 => h9) rfl (by decide +kernel) rfl rfl (Nat.le_of_ble_eq_true rfl) dX5_keepType_73 (fun H locs hP hD hS => ?_)
        obtain ⟨σ7, eσ7, h⟩ := bn h
        have hP : va_P D vwCl (wX5 a5 cI cZ σ7) H := by rw [eσ7]; exact hP
        have hD : va_D A (wX5 a5 cI cZ σ7) := by rw [eσ7]; exact hD
        refine lv_aload_n hx hb dX5_keepType_76 rfl (lv_at hl 0 rfl) ?_
        refine va_get (D := D) (ci := 5) (v := .int (σ7 13 0)) (C := RX5) (T := TX5) (N := 30) hx hb hts in_X5_keepType_X5 hown hK hP 0 rfl rfl 13 (by decide) (hts (.fieldLink RX5 110 "TermLoomModel" "types" "I") (by decide +kernel)) (fun _ h9 => h9) rfl dX5_keepType_77 ?_
        refine lv_iconst (v := 1) hx hb dX5_keepType_80 rfl ?_
        refine lv_isub hx hb dX5_keepType_81 ?_
        obtain ⟨rfl, rfl⟩ := so h
        exact ret_i C0 hP hD hS dX5_keepType_82
      · rw [if_neg hc4] at h
        exact k_X5_keepType_35 C0 N q1.2 x2 _ _ _ hP hD hS (lv_sub hl [0, 2] rfl) h

theorem in_X5_typeVariable_X5 : ∀ w ∈ u_ws RX5 TX5 30, w ∈ wsX5_typeVariable := by decide +kernel
def f_X5_typeVariable_60 (N : Nat) (σ : St) (x3 : Int32) : Option (Int32 × St) := some (x3, σ)
def f_X5_typeVariable_16 (N : Nat) (σ : St) (x1 s1 : Int32) : Option (Int32 × St) := bnd (up2 σ 0 0 s1) (fun σ1 => if (σ1 0 0) ≤ 0 then (f_X5_node N σ1 ((-1) - x1) (-1) (-1)).bind (fun q3 => (f_X5_keepType N q3.2 q3.1 2).bind (fun q4 => if (q4.2 0 0) ≤ 0 then f_X5_typeVariable_60 N q4.2 q4.1 else (f_X5_cut N q4.2 (σ1 5 0)).bind (fun q6 => f_X5_typeVariable_60 N q6 q4.1))) else some (0, σ1))
def f_X5_typeVariable (N : Nat) (σ : St) (x1 : Int32) : Option (Int32 × St) := (f_X5_outside N x1 1000).bind (fun q1 => if q1.1 = 0 then f_X5_typeVariable_16 N σ x1 0 else f_X5_typeVariable_16 N σ x1 1)
abbrev KP_X5_typeVariable_60 (p : Program) (l : Launch) (e : Env) (s : State) (m : MethodId) (args : Array Value) (below : List Frame) (meth : Method) (c : Code) (D : va_G) (cI cZ : ClassId) (a5 : Nat → Nat) (A : Nat → Prop) (r : Int32) (u1 : St) (K : St → Int32 → Option (Int32 × St)) : Prop := ∀ (σ : St) (x3 : Int32) (H : Heap) (locs : List Loc) (ls : Array Slot), va_P D vwCl (wX5 a5 cI cZ σ) H → va_D A (wX5 a5 cI cZ σ) → va_S A s.heap H locs → lv_has ls 4 [(3, .int x3)] → K σ x3 = some (r, u1) → W p l e ({ frames := 2, cells := 0, slots := 0, locals := 48 } : Room) s m args below meth c H locs 0 0 (QI below args s D cI cZ (wX5 a5 cI cZ) A r u1) (F0 m 60 ls [])
abbrev KP_X5_typeVariable_16 (p : Program) (l : Launch) (e : Env) (s : State) (m : MethodId) (args : Array Value) (below : List Frame) (meth : Method) (c : Code) (D : va_G) (cI cZ : ClassId) (a5 : Nat → Nat) (A : Nat → Prop) (r : Int32) (u1 : St) (K : St → Int32 → Int32 → Option (Int32 × St)) : Prop := ∀ (σ : St) (x1 s1 : Int32) (H : Heap) (locs : List Loc) (ls : Array Slot), va_P D vwCl (wX5 a5 cI cZ σ) H → va_D A (wX5 a5 cI cZ σ) → va_S A s.heap H locs → lv_has ls 4 [(0, .ref (a5 0)), (1, .int x1)] → K σ x1 s1 = some (r, u1) → W p l e ({ frames := 2, cells := 0, slots := 0, locals := 48 } : Room) s m args below meth c H locs 0 0 (QI below args s D cI cZ (wX5 a5 cI cZ) A r u1) (F0 m 16 ls [.int s1, .ref (a5 0)])
set_option maxHeartbeats 4000000 in
set_option maxRecDepth 100000 in
theorem k_X5_typeVariable_60 {p : Program} {l : Launch} {e : Env} {s : State} {m : MethodId} {args : Array Value} {below : List Frame} {meth : Method} {c : Code} {D : va_G} {cI cZ : ClassId} {a5 : Nat → Nat} {A : Nat → Prop} {r : Int32} {u1 : St} (C0 : mB p s m args meth c D cI cZ A cX5_typeVariable 4 (some .int) wsX5_typeVariable RX5) (N : Nat) : KP_X5_typeVariable_60 p l e s m args below meth c D cI cZ a5 A r u1 (f_X5_typeVariable_60 N) := by
  obtain ⟨hx, hb, hml, hr, hown, hts, hlocks, hA, hK, hN⟩ := id C0
  intro σ x3 H locs ls hP hD hS hl h
  unfold f_X5_typeVariable_60 at h
  refine lv_iload_n hx hb dX5_typeVariable_60 rfl (lv_at hl 0 rfl) ?_
  obtain ⟨rfl, rfl⟩ := so h
  exact ret_i C0 hP hD hS dX5_typeVariable_61
set_option maxHeartbeats 4000000 in
set_option maxRecDepth 100000 in
theorem k_X5_typeVariable_16 {p : Program} {l : Launch} {e : Env} {s : State} {m : MethodId} {args : Array Value} {below : List Frame} {meth : Method} {c : Code} {D : va_G} {cI cZ : ClassId} {a5 : Nat → Nat} {A : Nat → Prop} {r : Int32} {u1 : St} (C0 : mB p s m args meth c D cI cZ A cX5_typeVariable 4 (some .int) wsX5_typeVariable RX5) (N : Nat) : KP_X5_typeVariable_16 p l e s m args below meth c D cI cZ a5 A r u1 (f_X5_typeVariable_16 N) := by
  obtain ⟨hx, hb, hml, hr, hown, hts, hlocks, hA, hK, hN⟩ := id C0
  intro σ x1 s1 H locs ls hP hD hS hl h
  unfold f_X5_typeVariable_16 at h
  refine va_put (D := D) (ci := 5) (v := .int s1) (ty := .int) (C := RX5) (T := TX5) (N := 30) hx hb hts in_X5_typeVariable_X5 tyX5 tyX5_ok nmX5 hown hK hP hD hS 0 rfl rfl 0 (by decide) (hts (.fieldLink RX5 85 "TermLoomModel" "code" "I") (by decide +kernel)) (fun _ h9 => h9) rfl (by decide +kernel) rfl rfl (Nat.le_of_ble_eq_true rfl) dX5_typeVariable_16 (fun H locs hP hD hS => ?_)
  obtain ⟨σ1, eσ1, h⟩ := bn h
  have hP : va_P D vwCl (wX5 a5 cI cZ σ1) H := by rw [eσ1]; exact hP
  have hD : va_D A (wX5 a5 cI cZ σ1) := by rw [eσ1]; exact hD
  refine lv_aload_n hx hb dX5_typeVariable_19 rfl (lv_at hl 0 rfl) ?_
  refine va_get (D := D) (ci := 5) (v := .int (σ1 0 0)) (C := RX5) (T := TX5) (N := 30) hx hb hts in_X5_typeVariable_X5 hown hK hP 0 rfl rfl 0 (by decide) (hts (.fieldLink RX5 85 "TermLoomModel" "code" "I") (by decide +kernel)) (fun _ h9 => h9) rfl dX5_typeVariable_20 ?_
  refine lv_if_le (tgt := 28) hx hb dX5_typeVariable_23 (by decide) (fun hc2 => ?_) (fun hc2 => ?_)
  · rw [if_pos hc2] at h
    refine lv_aload_n hx hb dX5_typeVariable_28 rfl (lv_at hl 0 rfl) ?_
    refine va_get (D := D) (ci := 5) (v := .int (σ1 5 0)) (C := RX5) (T := TX5) (N := 30) hx hb hts in_X5_typeVariable_X5 hown hK hP 0 rfl rfl 5 (by decide) (hts (.fieldLink RX5 96 "TermLoomModel" "nodes" "I") (by decide +kernel)) (fun _ h9 => h9) rfl dX5_typeVariable_29 ?_
    refine lv_istore_n (lv' := [(2, .int (σ1 5 0)), (0, .ref (a5 0)), (1, .int x1)]) hx hb dX5_typeVariable_32 rfl hl (by decide) rfl (fun ls hl => ?_)
    refine lv_aload_n hx hb dX5_typeVariable_33 rfl (lv_at hl 1 rfl) ?_
    refine lv_aload_n hx hb dX5_typeVariable_34 rfl (lv_at hl 1 rfl) ?_
    refine lv_iconst (v := (-1)) hx hb dX5_typeVariable_35 rfl ?_
    refine lv_iload_n hx hb dX5_typeVariable_36 rfl (lv_at hl 2 rfl) ?_
    refine lv_isub hx hb dX5_typeVariable_37 ?_
    refine lv_iconst (v := (-1)) hx hb dX5_typeVariable_38 rfl ?_
    refine lv_iconst (v := (-1)) hx hb dX5_typeVariable_39 rfl ?_
    obtain ⟨q3, hq3, h⟩ := ob h
    refine mc_i (ws' := wX5 a5 cI cZ q3.2) (wr := ([] : va_W)) [0, 1, 2, 3, 4, 5, 6, 7, 8, 9, 10, 11, 12, 13, 14, 15, 16, 17, 18, 19, 20, 21, 22] [] [0, 1, 2, 3, 4, 5, 6, 7, 8, 9, 10, 11, 12, 13, 14, 15, 16, 17, 18, 19, 20, 21, 22] (va_runV (As := [.int ((-1) - x1), .int (-1), .int (-1)]) (rest := [.ref (a5 0)]) ⟨hx, hb, hml, hown, hts⟩ (c_X5_node l D cI cZ a5 N σ1 ((-1) - x1) (-1) (-1) q3.1 q3.2 hq3 H.size) (cwV 3 hts gX5_typeVariable_X5_node rfl rfl rfl (by decide +kernel) ⟨Nat.le_of_ble_eq_true rfl, Nat.le_of_ble_eq_true rfl⟩) (pV [0, 1, 2, 3, 4, 5, 6, 7, 8, 9, 10, 11, 12, 13, 14, 15, 16, 17, 18, 19, 20, 21, 22] hP hD hK hN rfl rfl rfl rfl) rfl rfl hl.1 rfl (lv_room (Nat.le_of_ble_eq_true rfl)) dX5_typeVariable_40 ⟨Nat.le_of_ble_eq_true rfl, Nat.le_of_ble_eq_true rfl⟩) hP hD hS hA rfl rfl rfl (by decide) rfl rfl (fun H locs hP hD hS => ?_)
    refine lv_iconst (v := 2) hx hb dX5_typeVariable_43 rfl ?_
    obtain ⟨q4, hq4, h⟩ := ob h
    refine mc_i (ws' := wX5 a5 cI cZ q4.2) (wr := ([] : va_W)) [0, 1, 2, 3, 4, 5, 6, 7, 8, 9, 10, 11, 12, 13, 14, 15, 16, 17, 18, 19, 20, 21, 22] [] [0, 1, 2, 3, 4, 5, 6, 7, 8, 9, 10, 11, 12, 13, 14, 15, 16, 17, 18, 19, 20, 21, 22] (va_runV (As := [.int q3.1, .int 2]) (rest := []) ⟨hx, hb, hml, hown, hts⟩ (c_X5_keepType l D cI cZ a5 N q3.2 q3.1 2 q4.1 q4.2 hq4 H.size) (cwV 2 hts gX5_typeVariable_X5_keepType rfl rfl rfl (by decide +kernel) ⟨Nat.le_of_ble_eq_true rfl, Nat.le_of_ble_eq_true rfl⟩) (pV [0, 1, 2, 3, 4, 5, 6, 7, 8, 9, 10, 11, 12, 13, 14, 15, 16, 17, 18, 19, 20, 21, 22] hP hD hK hN rfl rfl rfl rfl) rfl rfl hl.1 rfl (lv_room (Nat.le_of_ble_eq_true rfl)) dX5_typeVariable_44 ⟨Nat.le_of_ble_eq_true rfl, Nat.le_of_ble_eq_true rfl⟩) hP hD hS hA rfl rfl rfl (by decide) rfl rfl (fun H locs hP hD hS => ?_)
    refine lv_istore_n (lv' := [(3, .int q4.1), (2, .int (σ1 5 0)), (0, .ref (a5 0)), (1, .int x1)]) hx hb dX5_typeVariable_47 rfl hl (by decide) rfl (fun ls hl => ?_)
    refine lv_aload_n hx hb dX5_typeVariable_48 rfl (lv_at hl 2 rfl) ?_
    refine va_get (D := D) (ci := 5) (v := .int (q4.2 0 0)) (C := RX5) (T := TX5) (N := 30) hx hb hts in_X5_typeVariable_X5 hown hK hP 0 rfl rfl 0 (by decide) (hts (.fieldLink RX5 85 "TermLoomModel" "code" "I") (by decide +kernel)) (fun _ h9 => h9) rfl dX5_typeVariable_49 ?_
    refine lv_if_le (tgt := 60) hx hb dX5_typeVariable_52 (by decide) (fun hc5 => ?_) (fun hc5 => ?_)
    · rw [if_pos hc5] at h
      exact k_X5_typeVariable_60 C0 N q4.2 q4.1 _ _ _ hP hD hS (lv_sub hl [0] rfl) h
    · rw [if_neg hc5] at h
      refine lv_aload_n hx hb dX5_typeVariable_55 rfl (lv_at hl 2 rfl) ?_
      refine lv_iload_n hx hb dX5_typeVariable_56 rfl (lv_at hl 1 rfl) ?_
      obtain ⟨q6, hq6, h⟩ := ob h
      refine mc_v (ws' := wX5 a5 cI cZ q6) (wr := ([] : va_W)) [0, 1, 2, 3, 4, 5, 6, 7, 8, 9, 10, 11, 12, 13, 14, 15, 16, 17, 18, 19, 20, 21, 22] [] [0, 1, 2, 3, 4, 5, 6, 7, 8, 9, 10, 11, 12, 13, 14, 15, 16, 17, 18, 19, 20, 21, 22] (va_runV (As := [.int (σ1 5 0)]) (rest := []) ⟨hx, hb, hml, hown, hts⟩ (c_X5_cut l D cI cZ a5 N q4.2 (σ1 5 0) q6 hq6 H.size) (cwV 1 hts gX5_typeVariable_X5_cut rfl rfl rfl (by decide +kernel) ⟨Nat.le_of_ble_eq_true rfl, Nat.le_of_ble_eq_true rfl⟩) (pV [0, 1, 2, 3, 4, 5, 6, 7, 8, 9, 10, 11, 12, 13, 14, 15, 16, 17, 18, 19, 20, 21, 22] hP hD hK hN rfl rfl rfl rfl) rfl rfl hl.1 rfl (lv_room (Nat.le_of_ble_eq_true rfl)) dX5_typeVariable_57 ⟨Nat.le_of_ble_eq_true rfl, Nat.le_of_ble_eq_true rfl⟩) hP hD hS hA rfl rfl rfl (by decide) rfl rfl (fun H locs hP hD hS => ?_)
      exact k_X5_typeVariable_60 C0 N q6 q4.1 _ _ _ hP hD hS (lv_sub hl [0] rfl) h
  · rw [if_neg hc2] at h
    refine lv_iconst (v := 0) hx hb dX5_typeVariable_26 rfl ?_
    obtain ⟨rfl, rfl⟩ := so h
    exact ret_i C0 hP hD hS dX5_typeVariable_27
set_option maxHeartbeats 4000000 in
set_option maxRecDepth 100000 in
theorem c_X5_typeVariable (l : Launch) (D : va_G) (cI cZ : ClassId) (a5 : Nat → Nat) (N : Nat) (σ : St) (x1 : Int32) : MI l yX5_typeVariable wsX5_typeVariable ({ frames := 2, cells := 0, slots := 0, locals := 48 } : Room) D cI cZ (wX5 a5 cI cZ) [.ref (a5 0), .int x1] σ (f_X5_typeVariable N σ x1) := by
  refine MI.of (cc := cX5_typeVariable) (maxL := 4) (ret := (some .int)) (own := RX5) (by decide) rfl rfl (Nat.le_of_ble_eq_true rfl) ?_
  intro r u1 h p e s m args below meth c A C0 H locs ls hP hD hS hl
  obtain ⟨hx, hb, hml, hr, hown, hts, hlocks, hA, hK, hN⟩ := id C0
  have hl : lv_has ls 4 [(0, .ref (a5 0)), (1, .int x1)] := hl
  unfold f_X5_typeVariable at h
  refine lv_aload_n hx hb dX5_typeVariable_0 rfl (lv_at hl 0 rfl) ?_
  refine lv_iload_n hx hb dX5_typeVariable_1 rfl (lv_at hl 1 rfl) ?_
  refine lv_sipush (v := 1000) hx hb dX5_typeVariable_2 rfl ?_
  obtain ⟨q1, hq1, h⟩ := ob h
  refine mc_i (ws' := wX5 a5 cI cZ σ) (wr := ((wX5o a5 cI cZ σ) : va_W)) [] [0, 1, 2, 3, 4, 5, 6, 7, 8, 9, 10, 11, 12, 13, 14, 15, 16, 17, 18, 19, 20, 21, 22] [0, 1, 2, 3, 4, 5, 6, 7, 8, 9, 10, 11, 12, 13, 14, 15, 16, 17, 18, 19, 20, 21, 22] (va_runS (As := [.int x1, .int 1000]) (rest := [.ref (a5 0)]) ⟨hx, hb, hml, hown, hts⟩ (c_X5_outside l D cI cZ N x1 1000 q1.1 q1.2 hq1 H.size) (va_cwS 2 hts gX5_typeVariable_X5_outside rfl rfl rfl (by decide +kernel) ⟨Nat.le_of_ble_eq_true rfl, Nat.le_of_ble_eq_true rfl⟩) (pS [] hP hD hK hN rfl rfl) rfl rfl hl.1 rfl (lv_room (Nat.le_of_ble_eq_true rfl)) dX5_typeVariable_5 ⟨Nat.le_of_ble_eq_true rfl, Nat.le_of_ble_eq_true rfl⟩) hP hD hS hA rfl rfl rfl (by decide) rfl rfl (fun H locs hP hD hS => ?_)
  refine lv_if_eq (tgt := 15) hx hb dX5_typeVariable_8 (by decide) (fun hc2 => ?_) (fun hc2 => ?_)
  · rw [if_pos hc2] at h
    refine lv_iconst (v := 0) hx hb dX5_typeVariable_15 rfl ?_
    exact k_X5_typeVariable_16 C0 N σ x1 0 _ _ _ hP hD hS (lv_sub hl [0, 1] rfl) h
  · rw [if_neg hc2] at h
    refine lv_iconst (v := 1) hx hb dX5_typeVariable_11 rfl ?_
    refine lv_goto (tgt := 16) hx hb dX5_typeVariable_12 (by decide) ?_
    exact k_X5_typeVariable_16 C0 N σ x1 1 _ _ _ hP hD hS (lv_sub hl [0, 1] rfl) h
