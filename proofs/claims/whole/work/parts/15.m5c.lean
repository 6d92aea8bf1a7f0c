theorem in_X5_declare_X5 : ∀ w ∈ u_ws RX5 TX5 30, w ∈ wsX5_declare := by decide +kernel
def f_X5_declare_31 (N : Nat) (σ : St) (x1 s1 : Int32) : Option (Int32 × St) := bnd (up2 σ 0 0 s1) (fun σ1 => if (σ1 0 0) ≤ 0 then if x1 < 0 ∨ 4200 ≤ (x1).toNatClampNeg then none else if (σ1 3 0) < 0 ∨ 200 ≤ ((σ1 3 0)).toNatClampNeg then none else bnd (up2 σ1 4 ((σ1 3 0)).toNatClampNeg (σ1 15 (x1).toNatClampNeg)) (fun σ3 => bnd (up2 σ3 3 0 ((σ3 3 0) + 1)) (fun σ4 => some (((σ4 3 0) - 1), σ4))) else some (0, σ1))
def f_X5_declare (N : Nat) (σ : St) (x1 : Int32) : Option (Int32 × St) := (f_X5_outside N x1 (σ 13 0)).bind (fun q1 => if q1.1 = 0 then if (σ 3 0) = 200 then f_X5_declare_31 N σ x1 2 else f_X5_declare_31 N σ x1 0 else f_X5_declare_31 N σ x1 1)
abbrev KP_X5_declare_31 (p : Program) (l : Launch) (e : Env) (s : State) (m : MethodId) (args : Array Value) (below : List Frame) (meth : Method) (c : Code) (D : va_G) (cI cZ : ClassId) (a5 : Nat → Nat) (A : Nat → Prop) (r : Int32) (u1 : St) (K : St → Int32 → Int32 → Option (Int32 × St)) : Prop := ∀ (σ : St) (x1 s1 : Int32) (H : Heap) (locs : List Loc) (ls : Array Slot), va_P D vwCl (wX5 a5 cI cZ σ) H → va_D A (wX5 a5 cI cZ σ) → va_S A s.heap H locs → lv_has ls 2 [(0, .ref (a5 0)), (1, .int x1)] → K σ x1 s1 = some (r, u1) → W p l e ({ frames := 1, cells := 0, slots := 0, locals := 21 } : Room) s m args below meth c H locs 0 0 (QI below args s D cI cZ (wX5 a5 cI cZ) A r u1) (F0 m 31 ls [.int s1, .ref (a5 0)])
set_option maxHeartbeats 4000000 in
set_option maxRecDepth 100000 in
theorem k_X5_declare_31 {p : Program} {l : Launch} {e : Env} {s : State} {m : MethodId} {args : Array Value} {below : List Frame} {meth : Method} {c : Code} {D : va_G} {cI cZ : ClassId} {a5 : Nat → Nat} {A : Nat → Prop} {r : Int32} {u1 : St} (C0 : mB p s m args meth c D cI cZ A cX5_declare 2 (some .int) wsX5_declare RX5) (N : Nat) : KP_X5_declare_31 p l e s m args below meth c D cI cZ a5 A r u1 (f_X5_declare_31 N) := by
  obtain ⟨hx, hb, hml, hr, hown, hts, hlocks, hA, hK, hN⟩ := id C0
  intro σ x1 s1 H locs ls hP hD hS hl h
  unfold f_X5_declare_31 at h
  refine va_put (D := D) (ci := 5) (v := .int s1) (ty := .int) (C := RX5) (T := TX5) (N := 30) hx hb hts in_X5_declare_X5 tyX5 tyX5_ok nmX5 hown hK hP hD hS 0 rfl rfl 0 (by decide) (hts (.fieldLink RX5 85 "TermLoomModel" "code" "I") (by decide +kernel)) (fun _ h9 => h9) rfl (by decide +kernel) rfl rfl (Nat.le_of_ble_eq_true rfl) dX5_declare_31 (fun H locs hP hD hS => ?_)
  obtain ⟨σ1, eσ1, h⟩ := bn h
  have hP : va_P D vwCl (wX5 a5 cI cZ σ1) H := by rw [eσ1]; exact hP
  have hD : va_D A (wX5 a5 cI cZ σ1) := by rw [eσ1]; exact hD
  refine lv_aload_n hx hb dX5_declare_34 rfl (lv_at hl 0 rfl) ?_
  refine va_get (D := D) (ci := 5) (v := .int (σ1 0 0)) (C := RX5) (T := TX5) (N := 30) hx hb hts in_X5_declare_X5 hown hK hP 0 rfl rfl 0 (by decide) (hts (.fieldLink RX5 85 "TermLoomModel" "code" "I") (by decide +kernel)) (fun _ h9 => h9) rfl dX5_declare_35 ?_
  refine lv_if_le (tgt := 43) hx hb dX5_declare_38 (by decide) (fun hc2 => ?_) (fun hc2 => ?_)
  · rw [if_pos hc2] at h
    refine lv_aload_n hx hb dX5_declare_43 rfl (lv_at hl 0 rfl) ?_
    refine va_get (D := D) (ci := 5) (v := .ref (a5 5)) (C := RX5) (T := TX5) (N := 30) hx hb hts in_X5_declare_X5 hown hK hP 0 rfl rfl 4 (by decide) (hts (.fieldLink RX5 17 "TermLoomModel" "declared" "[I") (by decide +kernel)) (fun _ h9 => h9) rfl dX5_declare_44 ?_
    refine lv_aload_n hx hb dX5_declare_47 rfl (lv_at hl 0 rfl) ?_
    refine va_get (D := D) (ci := 5) (v := .int (σ1 3 0)) (C := RX5) (T := TX5) (N := 30) hx hb hts in_X5_declare_X5 hown hK hP 0 rfl rfl 3 (by decide) (hts (.fieldLink RX5 124 "TermLoomModel" "constants" "I") (by decide +kernel)) (fun _ h9 => h9) rfl dX5_declare_48 ?_
    refine lv_aload_n hx hb dX5_declare_51 rfl (lv_at hl 0 rfl) ?_
    refine va_get (D := D) (ci := 5) (v := .ref (a5 16)) (C := RX5) (T := TX5) (N := 30) hx hb hts in_X5_declare_X5 hown hK hP 0 rfl rfl 15 (by decide) (hts (.fieldLink RX5 41 "TermLoomModel" "typeAt" "[I") (by decide +kernel)) (fun _ h9 => h9) rfl dX5_declare_52 ?_
    refine lv_iload_n hx hb dX5_declare_55 rfl (lv_at hl 1 rfl) ?_
    by_cases hi : x1 < 0 ∨ 4200 ≤ (x1).toNatClampNeg
    · rw [if_pos hi] at h; exact no h
    rw [if_neg hi] at h
    refine va_iald (f := (σ1 15)) hx hb hK hP 10 0 rfl rfl (i := x1) hi dX5_declare_56 ?_
    by_cases hi : (σ1 3 0) < 0 ∨ 200 ≤ ((σ1 3 0)).toNatClampNeg
    · rw [if_pos hi] at h; exact no h
    rw [if_neg hi] at h
    refine va_iast (f := (σ1 4)) hx hb hK hP hD hS 2 0 rfl rfl (i := (σ1 3 0)) (x := (σ1 15 (x1).toNatClampNeg)) hi dX5_declare_57 (fun H locs hP hD hS => ?_)
    obtain ⟨σ3, eσ3, h⟩ := bn h
    have hP : va_P D vwCl (wX5 a5 cI cZ σ3) H := by rw [eσ3]; exact hP
    have hD : va_D A (wX5 a5 cI cZ σ3) := by rw [eσ3]; exact hD
    refine lv_aload_n hx hb dX5_declare_58 rfl (lv_at hl 0 rfl) ?_
    refine lv_dup hx hb dX5_declare_59 rfl ?_
    refine va_get (D := D) (ci := 5) (v := .int (σ3 3 0)) (C := RX5) (T := TX5) (N := 30) hx hb hts in_X5_declare_X5 hown hK hP 0 rfl rfl 3 (by decide) (hts (.fieldLink RX5 124 "TermLoomModel" "constants" "I") (by decide +kernel)) (fun _ h9 => h9) rfl dX5_declare_60 ?_
    refine lv_iconst (v := 1) hx hb dX5_declare_63 rfl ?_
    refine lv_iadd hx hb dX5_declare_64 ?_
    refine va_put (D := D) (ci := 5) (v := .int ((σ3 3 0) + 1)) (ty := .int) (C := RX5) (T := TX5) (N := 30) hx hb hts in_X5_declare_X5 tyX5 tyX5_ok nmX5 hown hK hP hD hS 0 rfl rfl 3 (by decide) (hts (.fieldLink RX5 124 "TermLoomModel" "constants" "I") (by decide +kernel)) (fun _ h9 => h9) rfl (by decide +kernel) rfl rfl (Nat.le_of_ble_eq_true rfl) dX5_declare_65 (fun H locs hP hD hS => ?_)
    obtain ⟨σ4, eσ4, h⟩ := bn h
    have hP : va_P D vwCl (wX5 a5 cI cZ σ4) H := by rw [eσ4]; exact hP
    have hD : va_D A (wX5 a5 cI cZ σ4) := by rw [eσ4]; exact hD
    refine lv_aload_n hx hb dX5_declare_68 rfl (lv_at hl 0 rfl) ?_
    refine va_get (D := D) (ci := 5) (v := .int (σ4 3 0)) (C := RX5) (T := TX5) (N := 30) hx hb hts in_X5_declare_X5 hown hK hP 0 rfl rfl 3 (by decide) (hts (.fieldLink RX5 124 "TermLoomModel" "constants" "I") (by decide +kernel)) (fun _ h9 => h9) rfl dX5_declare_69 ?_
    refine lv_iconst (v := 1) hx hb dX5_declare_72 rfl ?_
    refine lv_isub hx hb dX5_declare_73 ?_
    obtain ⟨rfl, rfl⟩ := so h
    exact ret_i C0 hP hD hS dX5_declare_74
  · rw [if_neg hc2] at h
    refine lv_iconst (v := 0) hx hb dX5_declare_41 rfl ?_
    obtain ⟨rfl, rfl⟩ := so h
    exact ret_i C0 hP hD hS dX5_declare_42
set_option maxHeartbeats 4000000 in
set_option maxRecDepth 100000 in
theorem c_X5_declare (l : Launch) (D : va_G) (cI cZ : ClassId) (a5 : Nat → Nat) (N : Nat) (σ : St) (x1 : Int32) : MI l yX5_declare wsX5_declare ({ frames := 1, cells := 0, slots := 0, locals := 21 } : Room) D cI cZ (wX5 a5 cI cZ) [.ref (a5 0), .int x1] σ (f_X5_declare N σ x1) := by
  refine MI.of (cc := cX5_declare) (maxL := 2) (ret := (some .int)) (own := RX5) (by decide) rfl rfl (Nat.le_of_ble_eq_true rfl) ?_
  intro r u1 h p e s m args below meth c A C0 H locs ls hP hD hS hl
  obtain ⟨hx, hb, hml, hr, hown, hts, hlocks, hA, hK, hN⟩ := id C0
  have hl : lv_has ls 2 [(0, .ref (a5 0)), (1, .int x1)] := hl
  unfold f_X5_declare at h
  refine lv_aload_n hx hb dX5_declare_0 rfl (lv_at hl 0 rfl) ?_
  refine lv_iload_n hx hb dX5_declare_1 rfl (lv_at hl 1 rfl) ?_
  refine lv_aload_n hx hb dX5_declare_2 rfl (lv_at hl 0 rfl) ?_
  refine va_get (D := D) (ci := 5) (v := .int (σ 13 0)) (C := RX5) (T := TX5) (N := 30) hx hb hts in_X5_declare_X5 hown hK hP 0 rfl rfl 13 (by decide) (hts (.fieldLink RX5 110 "TermLoomModel" "types" "I") (by decide +kernel)) (fun _ h9 => h9) rfl dX5_declare_3 ?_
  obtain ⟨q1, hq1, h⟩ := ob h
  refine mc_i (ws' := wX5 a5 cI cZ σ) (wr := ((wX5o a5 cI cZ σ) : va_W)) [] [0, 1, 2, 3, 4, 5, 6, 7, 8, 9, 10, 11, 12, 13, 14, 15, 16, 17, 18, 19, 20, 21, 22] [0, 1, 2, 3, 4, 5, 6, 7, 8, 9, 10, 11, 12, 13, 14, 15, 16, 17, 18, 19, 20, 21, 22] (va_runS (As := [.int x1, .int (σ 13 0)]) (rest := [.ref (a5 0)]) ⟨hx, hb, hml, hown, hts⟩ (c_X5_outside l D cI cZ N x1 (σ 13 0) q1.1 q1.2 hq1 H.size) (va_cwS 2 hts gX5_declare_X5_outside rfl rfl rfl (by decide +kernel) ⟨Nat.le_of_ble_eq_true rfl, Nat.le_of_ble_eq_true rfl⟩) (pS [] hP hD hK hN rfl rfl) rfl rfl hl.1 rfl (lv_room (Nat.le_of_ble_eq_true rfl)) dX5_declare_6 ⟨Nat.le_of_ble_eq_true rfl, Nat.le_of_ble_eq_true rfl⟩) hP hD hS hA rfl rfl rfl (by decide) rfl rfl (fun H locs hP hD hS => ?_)
  refine lv_if_eq (tgt := 16) hx hb dX5_declare_9 (by decide) (fun hc2 => ?_) (fun hc2 => ?_)
  · rw [if_pos hc2] at h
    refine lv_aload_n hx hb dX5_declare_16 rfl (lv_at hl 0 rfl) ?_
    refine va_get (D := D) (ci := 5) (v := .int (σ 3 0)) (C := RX5) (T := TX5) (N := 30) hx hb hts in_X5_declare_X5 hown hK hP 0 rfl rfl 3 (by decide) (hts (.fieldLink RX5 124 "TermLoomModel" "constants" "I") (by decide +kernel)) (fun _ h9 => h9) rfl dX5_declare_17 ?_
    refine lv_sipush (v := 200) hx hb dX5_declare_20 rfl ?_
    refine lv_icmp_ne (tgt := 30) hx hb dX5_declare_23 (by decide) (fun hc3 => ?_) (fun hc3 => ?_)
    · rw [if_neg hc3] at h
      refine lv_iconst (v := 0) hx hb dX5_declare_30 rfl ?_
      exact k_X5_declare_31 C0 N σ x1 0 _ _ _ hP hD hS (lv_sub hl [0, 1] rfl) h
    · rw [if_pos hc3] at h
      refine lv_iconst (v := 2) hx hb dX5_declare_26 rfl ?_
      refine lv_goto (tgt := 31) hx hb dX5_declare_27 (by decide) ?_
      exact k_X5_declare_31 C0 N σ x1 2 _ _ _ hP hD hS (lv_sub hl [0, 1] rfl) h
  · rw [if_neg hc2] at h
    refine lv_iconst (v := 1) hx hb dX5_declare_12 rfl ?_
    refine lv_goto (tgt := 31) hx hb dX5_declare_13 (by decide) ?_
    exact k_X5_declare_31 C0 N σ x1 1 _ _ _ hP hD hS (lv_sub hl [0, 1] rfl) h

theorem in_X5_endOf_X5 : ∀ w ∈ u_ws RX5 TX5 30, w ∈ wsX5_endOf := by decide +kernel
def f_X5_endOf_39 (N : Nat) (k4 : St → Int32 → Int32 → Option (Int32 × St)) (σ : St) (x3 s0 s1 : Int32) : Option (Int32 × St) := k4 σ (s0 + s1) (x3 + 1)
def f_X5_endOf_4 (N : Nat) : Nat → St → Int32 → Int32 → Option (Int32 × St)
  | 0, _, _, _ => none
  | n + 1, σ, x2, x3 => if x2 ≤ 0 then some (x3, σ) else if x3 < 0 ∨ 34100 ≤ (x3).toNatClampNeg then none else if (σ 20 (x3).toNatClampNeg) = (-1) then f_X5_endOf_39 N (f_X5_endOf_4 N n) σ x3 x2 1 else if x3 < 0 ∨ 34100 ≤ (x3).toNatClampNeg then none else if (σ 20 (x3).toNatClampNeg) = (-2) then f_X5_endOf_39 N (f_X5_endOf_4 N n) σ x3 x2 0 else f_X5_endOf_39 N (f_X5_endOf_4 N n) σ x3 x2 (-1)
def f_X5_endOf (N : Nat) (σ : St) (x1 : Int32) : Option (Int32 × St) := f_X5_endOf_4 N N σ 1 x1
abbrev KP_X5_endOf_39 (p : Program) (l : Launch) (e : Env) (s : State) (m : MethodId) (args : Array Value) (below : List Frame) (meth : Method) (c : Code) (D : va_G) (cI cZ : ClassId) (a5 : Nat → Nat) (A : Nat → Prop) (r : Int32) (u1 : St) (K : St → Int32 → Int32 → Int32 → Option (Int32 × St)) : Prop := ∀ (σ : St) (x3 s0 s1 : Int32) (H : Heap) (locs : List Loc) (ls : Array Slot), va_P D vwCl (wX5 a5 cI cZ σ) H → va_D A (wX5 a5 cI cZ σ) → va_S A s.heap H locs → lv_has ls 4 [(0, .ref (a5 0)), (3, .int x3)] → K σ x3 s0 s1 = some (r, u1) → W p l e ({ frames := 0, cells := 0, slots := 0, locals := 0 } : Room) s m args below meth c H locs 0 0 (QI below args s D cI cZ (wX5 a5 cI cZ) A r u1) (F0 m 39 ls [.int s1, .int s0])
abbrev KP_X5_endOf_4 (p : Program) (l : Launch) (e : Env) (s : State) (m : MethodId) (args : Array Value) (below : List Frame) (meth : Method) (c : Code) (D : va_G) (cI cZ : ClassId) (a5 : Nat → Nat) (A : Nat → Prop) (r : Int32) (u1 : St) (K : St → Int32 → Int32 → Option (Int32 × St)) : Prop := ∀ (σ : St) (x2 x3 : Int32) (H : Heap) (locs : List Loc) (ls : Array Slot), va_P D vwCl (wX5 a5 cI cZ σ) H → va_D A (wX5 a5 cI cZ σ) → va_S A s.heap H locs → lv_has ls 4 [(0, .ref (a5 0)), (2, .int x2), (3, .int x3)] → K σ x2 x3 = some (r, u1) → W p l e ({ frames := 0, cells := 0, slots := 0, locals := 0 } : Room) s m args below meth c H locs 0 0 (QI below args s D cI cZ (wX5 a5 cI cZ) A r u1) (F0 m 4 ls [])
set_option maxHeartbeats 4000000 in
set_option maxRecDepth 100000 in
theorem k_X5_endOf_39 {p : Program} {l : Launch} {e : Env} {s : State} {m : MethodId} {args : Array Value} {below : List Frame} {meth : Method} {c : Code} {D : va_G} {cI cZ : ClassId} {a5 : Nat → Nat} {A : Nat → Prop} {r : Int32} {u1 : St} (C0 : mB p s m args meth c D cI cZ A cX5_endOf 4 (some .int) wsX5_endOf RX5) (N : Nat) (k4 : St → Int32 → Int32 → Option (Int32 × St)) (hk4 : KP_X5_endOf_4 p l e s m args below meth c D cI cZ a5 A r u1 k4) : KP_X5_endOf_39 p l e s m args below meth c D cI cZ a5 A r u1 (f_X5_endOf_39 N k4) := by
  obtain ⟨hx, hb, hml, hr, hown, hts, hlocks, hA, hK, hN⟩ := id C0
  intro σ x3 s0 s1 H locs ls hP hD hS hl h
  unfold f_X5_endOf_39 at h
  refine lv_iadd hx hb dX5_endOf_39 ?_
  refine lv_istore_n (lv' := [(2, .int (s0 + s1)), (0, .ref (a5 0)), (3, .int x3)]) hx hb dX5_endOf_40 rfl hl (by decide) rfl (fun ls hl => ?_)
  refine lv_iinc (v := (x3 + 1)) (lv' := [(3, .int (x3 + 1)), (2, .int (s0 + s1)), (0, .ref (a5 0))]) hx hb dX5_endOf_41 hl (k := 2) rfl rfl (by decide) rfl (fun ls hl => ?_)
  refine lv_goto (tgt := 4) hx hb dX5_endOf_44 (by decide) ?_
  exact hk4 σ (s0 + s1) (x3 + 1) _ _ _ hP hD hS (lv_sub hl [2, 1, 0] rfl) h
set_option maxHeartbeats 4000000 in
set_option maxRecDepth 100000 in
theorem k_X5_endOf_4 {p : Program} {l : Launch} {e : Env} {s : State} {m : MethodId} {args : Array Value} {below : List Frame} {meth : Method} {c : Code} {D : va_G} {cI cZ : ClassId} {a5 : Nat → Nat} {A : Nat → Prop} {r : Int32} {u1 : St} (C0 : mB p s m args meth c D cI cZ A cX5_endOf 4 (some .int) wsX5_endOf RX5) (N : Nat) : ∀ n : Nat, KP_X5_endOf_4 p l e s m args below meth c D cI cZ a5 A r u1 (f_X5_endOf_4 N n) := by
  obtain ⟨hx, hb, hml, hr, hown, hts, hlocks, hA, hK, hN⟩ := id C0
  intro n
  induction n with
  | zero =>
    intro σ x2 x3 H locs ls hP hD hS hl h
    exact no (show (none : Option (Int32 × St)) = _ from h)
  | succ n ih =>
    intro σ x2 x3 H locs ls hP hD hS hl h
    rw [f_X5_endOf_4] at h
    refine lv_iload_n hx hb dX5_endOf_4 rfl (lv_at hl 1 rfl) ?_
    refine lv_if_le (tgt := 47) hx hb dX5_endOf_5 (by decide) (fun hc1 => ?_) (fun hc1 => ?_)
    · rw [if_pos hc1] at h
      refine lv_iload_n hx hb dX5_endOf_47 rfl (lv_at hl 2 rfl) ?_
      obtain ⟨rfl, rfl⟩ := so h
      exact ret_i C0 hP hD hS dX5_endOf_48
    · rw [if_neg hc1] at h
      refine lv_iload_n hx hb dX5_endOf_8 rfl (lv_at hl 1 rfl) ?_
      refine lv_aload_n hx hb dX5_endOf_9 rfl (lv_at hl 0 rfl) ?_
      refine va_get (D := D) (ci := 5) (v := .ref (a5 21)) (C := RX5) (T := TX5) (N := 30) hx hb hts in_X5_endOf_X5 hown hK hP 0 rfl rfl 20 (by decide) (hts (.fieldLink RX5 55 "TermLoomModel" "symbol" "[I") (by decide +kernel)) (fun _ h9 => h9) rfl dX5_endOf_10 ?_
      refine lv_iload_n hx hb dX5_endOf_13 rfl (lv_at hl 2 rfl) ?_
      by_cases hi : x3 < 0 ∨ 34100 ≤ (x3).toNatClampNeg
      · rw [if_pos hi] at h; exact no h
      rw [if_neg hi] at h
      refine va_iald (f := (σ 20)) hx hb hK hP 14 0 rfl rfl (i := x3) hi dX5_endOf_14 ?_
      refine lv_iconst (v := (-1)) hx hb dX5_endOf_15 rfl ?_
      refine lv_icmp_ne (tgt := 23) hx hb dX5_endOf_16 (by decide) (fun hc2 => ?_) (fun hc2 => ?_)
      · rw [if_neg hc2] at h
        refine lv_aload_n hx hb dX5_endOf_23 rfl (lv_at hl 0 rfl) ?_
        refine va_get (D := D) (ci := 5) (v := .ref (a5 21)) (C := RX5) (T := TX5) (N := 30) hx hb hts in_X5_endOf_X5 hown hK hP 0 rfl rfl 20 (by decide) (hts (.fieldLink RX5 55 "TermLoomModel" "symbol" "[I") (by decide +kernel)) (fun _ h9 => h9) rfl dX5_endOf_24 ?_
        refine lv_iload_n hx hb dX5_endOf_27 rfl (lv_at hl 2 rfl) ?_
        by_cases hi : x3 < 0 ∨ 34100 ≤ (x3).toNatClampNeg
        · rw [if_pos hi] at h; exact no h
        rw [if_neg hi] at h
        refine va_iald (f := (σ 20)) hx hb hK hP 14 0 rfl rfl (i := x3) hi dX5_endOf_28 ?_
        refine lv_bipush (v := (-2)) hx hb dX5_endOf_29 rfl ?_
        refine lv_icmp_ne (tgt := 38) hx hb dX5_endOf_31 (by decide) (fun hc3 => ?_) (fun hc3 => ?_)
        · rw [if_neg hc3] at h
          refine lv_iconst (v := (-1)) hx hb dX5_endOf_38 rfl ?_
          exact k_X5_endOf_39 C0 N (f_X5_endOf_4 N n) ih σ x3 x2 (-1) _ _ _ hP hD hS (lv_sub hl [0, 2] rfl) h
        · rw [if_pos hc3] at h
          refine lv_iconst (v := 0) hx hb dX5_endOf_34 rfl ?_
          refine lv_goto (tgt := 39) hx hb dX5_endOf_35 (by decide) ?_
          exact k_X5_endOf_39 C0 N (f_X5_endOf_4 N n) ih σ x3 x2 0 _ _ _ hP hD hS (lv_sub hl [0, 2] rfl) h
      · rw [if_pos hc2] at h
        refine lv_iconst (v := 1) hx hb dX5_endOf_19 rfl ?_
        refine lv_goto (tgt := 39) hx hb dX5_endOf_20 (by decide) ?_
        exact k_X5_endOf_39 C0 N (f_X5_endOf_4 N n) ih σ x3 x2 1 _ _ _ hP hD hS (lv_sub hl [0, 2] rfl) h
set_option maxHeartbeats 4000000 in
set_option maxRecDepth 100000 in
theorem c_X5_endOf (l : Launch) (D : va_G) (cI cZ : ClassId) (a5 : Nat → Nat) (N : Nat) (σ : St) (x1 : Int32) : MI l yX5_endOf wsX5_endOf ({ frames := 0, cells := 0, slots := 0, locals := 0 } : Room) D cI cZ (wX5 a5 cI cZ) [.ref (a5 0), .int x1] σ (f_X5_endOf N σ x1) := by
  refine MI.of (cc := cX5_endOf) (maxL := 4) (ret := (some .int)) (own := RX5) (by decide) rfl rfl (Nat.le_of_ble_eq_true rfl) ?_
  intro r u1 h p e s m args below meth c A C0 H locs ls hP hD hS hl
  obtain ⟨hx, hb, hml, hr, hown, hts, hlocks, hA, hK, hN⟩ := id C0
  have hl : lv_has ls 4 [(0, .ref (a5 0)), (1, .int x1)] := hl
  unfold f_X5_endOf at h
  refine lv_iconst (v := 1) hx hb dX5_endOf_0 rfl ?_
  refine lv_istore_n (lv' := [(2, .int 1), (0, .ref (a5 0)), (1, .int x1)]) hx hb dX5_endOf_1 rfl hl (by decide) rfl (fun ls hl => ?_)
  refine lv_iload_n hx hb dX5_endOf_2 rfl (lv_at hl 2 rfl) ?_
  refine lv_istore_n (lv' := [(3, .int x1), (2, .int 1), (0, .ref (a5 0)), (1, .int x1)]) hx hb dX5_endOf_3 rfl hl (by decide) rfl (fun ls hl => ?_)
  exact k_X5_endOf_4 C0 N N σ 1 x1 _ _ _ hP hD hS (lv_sub hl [2, 1, 0] rfl) h

theorem in_X5_heightOf_X5 : ∀ w ∈ u_ws RX5 TX5 30, w ∈ wsX5_heightOf := by decide +kernel
def f_X5_heightOf_95 (N : Nat) (k14 : St → Int32 → Int32 → Int32 → Int32 → Option (Int32 × St)) (σ : St) (x2 x3 x4 x5 : Int32) : Option (Int32 × St) := k14 σ x2 x3 x4 (x5 + 1)
def f_X5_heightOf_59 (N : Nat) (k14 : St → Int32 → Int32 → Int32 → Int32 → Option (Int32 × St)) (σ : St) (x2 x3 x5 s0 : Int32) : Option (Int32 × St) := if x5 < 0 ∨ 34100 ≤ (x5).toNatClampNeg then none else if 0 ≤ (σ 20 (x5).toNatClampNeg) then f_X5_heightOf_95 N k14 σ x2 x3 s0 x5 else if x3 = 121 then f_X5_heightOf_95 N k14 σ x2 x3 s0 x5 else (f_X5_endOf N σ x5).bind (fun q3 => if x3 < 0 ∨ 130 ≤ (x3).toNatClampNeg then none else bnd (up2 q3.2 24 (x3).toNatClampNeg q3.1) (fun σ4 => f_X5_heightOf_95 N k14 σ4 x2 (x3 + 1) s0 x5))
def f_X5_heightOf_43 (N : Nat) (k14 : St → Int32 → Int32 → Int32 → Int32 → Option (Int32 × St)) (σ : St) (x2 x3 x4 x5 : Int32) : Option (Int32 × St) := if (x3 + 1) ≤ x4 then f_X5_heightOf_59 N k14 σ x2 x3 x5 x4 else f_X5_heightOf_59 N k14 σ x2 x3 x5 (x3 + 1)
def f_X5_heightOf_20 (N : Nat) (k14 : St → Int32 → Int32 → Int32 → Int32 → Option (Int32 × St)) : Nat → St → Int32 → Int32 → Int32 → Int32 → Option (Int32 × St)
  | 0, _, _, _, _, _ => none
  | n + 1, σ, x2, x3, x4, x5 => if x3 ≤ 0 then f_X5_heightOf_43 N k14 σ x2 x3 x4 x5 else if (x3 - 1) < 0 ∨ 130 ≤ ((x3 - 1)).toNatClampNeg then none else if x5 < (σ 24 ((x3 - 1)).toNatClampNeg) then f_X5_heightOf_43 N k14 σ x2 x3 x4 x5 else f_X5_heightOf_20 N k14 n σ x2 (x3 + (-1)) x4 x5
def f_X5_heightOf_14 (N : Nat) : Nat → St → Int32 → Int32 → Int32 → Int32 → Option (Int32 × St)
  | 0, _, _, _, _, _ => none
  | n + 1, σ, x2, x3, x4, x5 => if x2 ≤ x5 then some (x4, σ) else f_X5_heightOf_20 N (f_X5_heightOf_14 N n) N σ x2 x3 x4 x5
def f_X5_heightOf (N : Nat) (σ : St) (x1 : Int32) : Option (Int32 × St) := (f_X5_endOf N σ x1).bind (fun q1 => f_X5_heightOf_14 N N q1.2 q1.1 0 0 x1)
abbrev KP_X5_heightOf_95 (p : Program) (l : Launch) (e : Env) (s : State) (m : MethodId) (args : Array Value) (below : List Frame) (meth : Method) (c : Code) (D : va_G) (cI cZ : ClassId) (a5 : Nat → Nat) (A : Nat → Prop) (r : Int32) (u1 : St) (K : St → Int32 → Int32 → Int32 → Int32 → Option (Int32 × St)) : Prop := ∀ (σ : St) (x2 x3 x4 x5 : Int32) (H : Heap) (locs : List Loc) (ls : Array Slot), va_P D vwCl (wX5 a5 cI cZ σ) H → va_D A (wX5 a5 cI cZ σ) → va_S A s.heap H locs → lv_has ls 6 [(0, .ref (a5 0)), (2, .int x2), (3, .int x3), (4, .int x4), (5, .int x5)] → K σ x2 x3 x4 x5 = some (r, u1) → W p l e ({ frames := 1, cells := 0, slots := 0, locals := 23 } : Room) s m args below meth c H locs 0 0 (QI below args s D cI cZ (wX5 a5 cI cZ) A r u1) (F0 m 95 ls [])
abbrev KP_X5_heightOf_59 (p : Program) (l : Launch) (e : Env) (s : State) (m : MethodId) (args : Array Value) (below : List Frame) (meth : Method) (c : Code) (D : va_G) (cI cZ : ClassId) (a5 : Nat → Nat) (A : Nat → Prop) (r : Int32) (u1 : St) (K : St → Int32 → Int32 → Int32 → Int32 → Option (Int32 × St)) : Prop := ∀ (σ : St) (x2 x3 x5 s0 : Int32) (H : Heap) (locs : List Loc) (ls : Array Slot), va_P D vwCl (wX5 a5 cI cZ σ) H → va_D A (wX5 a5 cI cZ σ) → va_S A s.heap H locs → lv_has ls 6 [(0, .ref (a5 0)), (2, .int x2), (3, .int x3), (5, .int x5)] → K σ x2 x3 x5 s0 = some (r, u1) → W p l e ({ frames := 1, cells := 0, slots := 0, locals := 23 } : Room) s m args below meth c H locs 0 0 (QI below args s D cI cZ (wX5 a5 cI cZ) A r u1) (F0 m 59 ls [.int s0])
abbrev KP_X5_heightOf_43 (p : Program) (l : Launch) (e : Env) (s : State) (m : MethodId) (args : Array Value) (below : List Frame) (meth : Method) (c : Code) (D : va_G) (cI cZ : ClassId) (a5 : Nat → Nat) (A : Nat → Prop) (r : Int32) (u1 : St) (K : St → Int32 → Int32 → Int32 → Int32 → Option (Int32 × St)) : Prop := ∀ (σ : St) (x2 x3 x4 x5 : Int32) (H : Heap) (locs : List Loc) (ls : Array Slot), va_P D vwCl (wX5 a5 cI cZ σ) H → va_D A (wX5 a5 cI cZ σ) → va_S A s.heap H locs → lv_has ls 6 [(0, .ref (a5 0)), (2, .int x2), (3, .int x3), (4, .int x4), (5, .int x5)] → K σ x2 x3 x4 x5 = some (r, u1) → W p l e ({ frames := 1, cells := 0, slots := 0, locals := 23 } : Room) s m args below meth c H locs 0 0 (QI below args s D cI cZ (wX5 a5 cI cZ) A r u1) (F0 m 43 ls [])
abbrev KP_X5_heightOf_20 (p : Program) (l : Launch) (e : Env) (s : State) (m : MethodId) (args : Array Value) (below : List Frame) (meth : Method) (c : Code) (D : va_G) (cI cZ : ClassId) (a5 : Nat → Nat) (A : Nat → Prop) (r : Int32) (u1 : St) (K : St → Int32 → Int32 → Int32 → Int32 → Option (Int32 × St)) : Prop := ∀ (σ : St) (x2 x3 x4 x5 : Int32) (H : Heap) (locs : List Loc) (ls : Array Slot), va_P D vwCl (wX5 a5 cI cZ σ) H → va_D A (wX5 a5 cI cZ σ) → va_S A s.heap H locs → lv_has ls 6 [(0, .ref (a5 0)), (2, .int x2), (3, .int x3), (4, .int x4), (5, .int x5)] → K σ x2 x3 x4 x5 = some (r, u1) → W p l e ({ frames := 1, cells := 0, slots := 0, locals := 23 } : Room) s m args below meth c H locs 0 0 (QI below args s D cI cZ (wX5 a5 cI cZ) A r u1) (F0 m 20 ls [])
abbrev KP_X5_heightOf_14 (p : Program) (l : Launch) (e : Env) (s : State) (m : MethodId) (args : Array Value) (below : List Frame) (meth : Method) (c : Code) (D : va_G) (cI cZ : ClassId) (a5 : Nat → Nat) (A : Nat → Prop) (r : Int32) (u1 : St) (K : St → Int32 → Int32 → Int32 → Int32 → Option (Int32 × St)) : Prop := ∀ (σ : St) (x2 x3 x4 x5 : Int32) (H : Heap) (locs : List Loc) (ls : Array Slot), va_P D vwCl (wX5 a5 cI cZ σ) H → va_D A (wX5 a5 cI cZ σ) → va_S A s.heap H locs → lv_has ls 6 [(0, .ref (a5 0)), (2, .int x2), (3, .int x3), (4, .int x4), (5, .int x5)] → K σ x2 x3 x4 x5 = some (r, u1) → W p l e ({ frames := 1, cells := 0, slots := 0, locals := 23 } : Room) s m args below meth c H locs 0 0 (QI below args s D cI cZ (wX5 a5 cI cZ) A r u1) (F0 m 14 ls [])
set_option maxHeartbeats 4000000 in
set_option maxRecDepth 100000 in
theorem k_X5_heightOf_95 {p : Program} {l : Launch} {e : Env} {s : State} {m : MethodId} {args : Array Value} {below : List Frame} {meth : Method} {c : Code} {D : va_G} {cI cZ : ClassId} {a5 : Nat → Nat} {A : Nat → Prop} {r : Int32} {u1 : St} (C0 : mB p s m args meth c D cI cZ A cX5_heightOf 6 (some .int) wsX5_heightOf RX5) (N : Nat) (k14 : St → Int32 → Int32 → Int32 → Int32 → Option (Int32 × St)) (hk14 : KP_X5_heightOf_14 p l e s m args below meth c D cI cZ a5 A r u1 k14) : KP_X5_heightOf_95 p l e s m args below meth c D cI cZ a5 A r u1 (f_X5_heightOf_95 N k14) := by
  obtain ⟨hx, hb, hml, hr, hown, hts, hlocks, hA, hK, hN⟩ := id C0
  intro σ x2 x3 x4 x5 H locs ls hP hD hS hl h
  unfold f_X5_heightOf_95 at h
  refine lv_iinc (v := (x5 + 1)) (lv' := [(5, .int (x5 + 1)), (0, .ref (a5 0)), (2, .int x2), (3, .int x3), (4, .int x4)]) hx hb dX5_heightOf_95 hl (k := 4) rfl rfl (by decide) rfl (fun ls hl => ?_)
  refine lv_goto (tgt := 14) hx hb dX5_heightOf_98 (by decide) ?_
  exact hk14 σ x2 x3 x4 (x5 + 1) _ _ _ hP hD hS (lv_sub hl [1, 2, 3, 4, 0] rfl) h
set_option maxHeartbeats 4000000 in
set_option maxRecDepth 100000 in
theorem k_X5_heightOf_59 {p : Program} {l : Launch} {e : Env} {s : State} {m : MethodId} {args : Array Value} {below : List Frame} {meth : Method} {c : Code} {D : va_G} {cI cZ : ClassId} {a5 : Nat → Nat} {A : Nat → Prop} {r : Int32} {u1 : St} (C0 : mB p s m args meth c D cI cZ A cX5_heightOf 6 (some .int) wsX5_heightOf RX5) (N : Nat) (k14 : St → Int32 → Int32 → Int32 → Int32 → Option (Int32 × St)) (hk14 : KP_X5_heightOf_14 p l e s m args below meth c D cI cZ a5 A r u1 k14) : KP_X5_heightOf_59 p l e s m args below meth c D cI cZ a5 A r u1 (f_X5_heightOf_59 N k14) := by
  obtain ⟨hx, hb, hml, hr, hown, hts, hlocks, hA, hK, hN⟩ := id C0
  intro σ x2 x3 x5 s0 H locs ls hP hD hS hl h
  unfold f_X5_heightOf_59 at h
  refine lv_istore (lv' := [(4, .int s0), (0, .ref (a5 0)), (2, .int x2), (3, .int x3), (5, .int x5)]) hx hb dX5_heightOf_59 hl (by decide) rfl (fun ls hl => ?_)
  refine lv_aload_n hx hb dX5_heightOf_61 rfl (lv_at hl 1 rfl) ?_
  refine va_get (D := D) (ci := 5) (v := .ref (a5 21)) (C := RX5) (T := TX5) (N := 30) hx hb hts in_X5_heightOf_X5 hown hK hP 0 rfl rfl 20 (by decide) (hts (.fieldLink RX5 55 "TermLoomModel" "symbol" "[I") (by decide +kernel)) (fun _ h9 => h9) rfl dX5_heightOf_62 ?_
  refine lv_iload hx hb dX5_heightOf_65 (lv_at hl 4 rfl) ?_
  by_cases hi : x5 < 0 ∨ 34100 ≤ (x5).toNatClampNeg
  · rw [if_pos hi] at h; exact no h
  rw [if_neg hi] at h
  refine va_iald (f := (σ 20)) hx hb hK hP 14 0 rfl rfl (i := x5) hi dX5_heightOf_67 ?_
  refine lv_if_ge (tgt := 95) hx hb dX5_heightOf_68 (by decide) (fun hc1 => ?_) (fun hc1 => ?_)
  · rw [if_pos hc1] at h
    exact k_X5_heightOf_95 C0 N k14 hk14 σ x2 x3 s0 x5 _ _ _ hP hD hS (lv_sub hl [1, 2, 3, 0, 4] rfl) h
  · rw [if_neg hc1] at h
    refine lv_iload_n hx hb dX5_heightOf_71 rfl (lv_at hl 3 rfl) ?_
    refine lv_bipush (v := 121) hx hb dX5_heightOf_72 rfl ?_
    refine lv_icmp_ne (tgt := 80) hx hb dX5_heightOf_74 (by decide) (fun hc2 => ?_) (fun hc2 => ?_)
    · rw [if_neg hc2] at h
      refine lv_aload_n hx hb dX5_heightOf_80 rfl (lv_at hl 1 rfl) ?_
      refine va_get (D := D) (ci := 5) (v := .ref (a5 25)) (C := RX5) (T := TX5) (N := 30) hx hb hts in_X5_heightOf_X5 hown hK hP 0 rfl rfl 24 (by decide) (hts (.fieldLink RX5 67 "TermLoomModel" "ends" "[I") (by decide +kernel)) (fun _ h9 => h9) rfl dX5_heightOf_81 ?_
      refine lv_iload_n hx hb dX5_heightOf_84 rfl (lv_at hl 3 rfl) ?_
      refine lv_aload_n hx hb dX5_heightOf_85 rfl (lv_at hl 1 rfl) ?_
      refine lv_iload hx hb dX5_heightOf_86 (lv_at hl 4 rfl) ?_
      obtain ⟨q3, hq3, h⟩ := ob h
      refine mc_i (ws' := wX5 a5 cI cZ q3.2) (wr := ([] : va_W)) [0, 1, 2, 3, 4, 5, 6, 7, 8, 9, 10, 11, 12, 13, 14, 15, 16, 17, 18, 19, 20, 21, 22] [] [0, 1, 2, 3, 4, 5, 6, 7, 8, 9, 10, 11, 12, 13, 14, 15, 16, 17, 18, 19, 20, 21, 22] (va_runV (As := [.int x5]) (rest := [.int x3, .ref (a5 25)]) ⟨hx, hb, hml, hown, hts⟩ (c_X5_endOf l D cI cZ a5 N σ x5 q3.1 q3.2 hq3 H.size) (cwV 1 hts gX5_heightOf_X5_endOf rfl rfl rfl (by decide +kernel) ⟨Nat.le_of_ble_eq_true rfl, Nat.le_of_ble_eq_true rfl⟩) (pV [0, 1, 2, 3, 4, 5, 6, 7, 8, 9, 10, 11, 12, 13, 14, 15, 16, 17, 18, 19, 20, 21, 22] hP hD hK hN rfl rfl rfl rfl) rfl rfl hl.1 rfl (lv_room (Nat.le_of_ble_eq_true rfl)) dX5_heightOf_88 ⟨Nat.le_of_ble_eq_true rfl, Nat.le_of_ble_eq_true rfl⟩) hP hD hS hA rfl rfl rfl (by decide) rfl rfl (fun H locs hP hD hS => ?_)
      by_cases hi : x3 < 0 ∨ 130 ≤ (x3).toNatClampNeg
      · rw [if_pos hi] at h; exact no h
      rw [if_neg hi] at h
      refine va_iast (f := (q3.2 24)) hx hb hK hP hD hS 18 0 rfl rfl (i := x3) (x := q3.1) hi dX5_heightOf_91 (fun H locs hP hD hS => ?_)
      obtain ⟨σ4, eσ4, h⟩ := bn h
      have hP : va_P D vwCl (wX5 a5 cI cZ σ4) H := by rw [eσ4]; exact hP
      have hD : va_D A (wX5 a5 cI cZ σ4) := by rw [eσ4]; exact hD
      refine lv_iinc (v := (x3 + 1)) (lv' := [(3, .int (x3 + 1)), (4, .int s0), (0, .ref (a5 0)), (2, .int x2), (5, .int x5)]) hx hb dX5_heightOf_92 hl (k := 3) rfl rfl (by decide) rfl (fun ls hl => ?_)
      exact k_X5_heightOf_95 C0 N k14 hk14 σ4 x2 (x3 + 1) s0 x5 _ _ _ hP hD hS (lv_sub hl [2, 3, 0, 1, 4] rfl) h
    · rw [if_pos hc2] at h
      refine lv_goto (tgt := 95) hx hb dX5_heightOf_77 (by decide) ?_
      exact k_X5_heightOf_95 C0 N k14 hk14 σ x2 x3 s0 x5 _ _ _ hP hD hS (lv_sub hl [1, 2, 3, 0, 4] rfl) h
set_option maxHeartbeats 4000000 in
set_option maxRecDepth 100000 in
theorem k_X5_heightOf_43 {p : Program} {l : Launch} {e : Env} {s : State} {m : MethodId} {args : Array Value} {below : List Frame} {meth : Method} {c : Code} {D : va_G} {cI cZ : ClassId} {a5 : Nat → Nat} {A : Nat → Prop} {r : Int32} {u1 : St} (C0 : mB p s m args meth c D cI cZ A cX5_heightOf 6 (some .int) wsX5_heightOf RX5) (N : Nat) (k14 : St → Int32 → Int32 → Int32 → Int32 → Option (Int32 × St)) (hk14 : KP_X5_heightOf_14 p l e s m args below meth c D cI cZ a5 A r u1 k14) : KP_X5_heightOf_43 p l e s m args below meth c D cI cZ a5 A r u1 (f_X5_heightOf_43 N k14) := by
  obtain ⟨hx, hb, hml, hr, hown, hts, hlocks, hA, hK, hN⟩ := id C0
  intro σ x2 x3 x4 x5 H locs ls hP hD hS hl h
  unfold f_X5_heightOf_43 at h
  refine lv_iload_n hx hb dX5_heightOf_43 rfl (lv_at hl 2 rfl) ?_
  refine lv_iconst (v := 1) hx hb dX5_heightOf_44 rfl ?_
  refine lv_iadd hx hb dX5_heightOf_45 ?_
  refine lv_iload hx hb dX5_heightOf_46 (lv_at hl 3 rfl) ?_
  refine lv_icmp_le (tgt := 57) hx hb dX5_heightOf_48 (by decide) (fun hc1 => ?_) (fun hc1 => ?_)
  · rw [if_pos hc1] at h
    refine lv_iload hx hb dX5_heightOf_57 (lv_at hl 3 rfl) ?_
    exact k_X5_heightOf_59 C0 N k14 hk14 σ x2 x3 x5 x4 _ _ _ hP hD hS (lv_sub hl [0, 1, 2, 4] rfl) h
  · rw [if_neg hc1] at h
    refine lv_iload_n hx hb dX5_heightOf_51 rfl (lv_at hl 2 rfl) ?_
    refine lv_iconst (v := 1) hx hb dX5_heightOf_52 rfl ?_
    refine lv_iadd hx hb dX5_heightOf_53 ?_
    refine lv_goto (tgt := 59) hx hb dX5_heightOf_54 (by decide) ?_
    exact k_X5_heightOf_59 C0 N k14 hk14 σ x2 x3 x5 (x3 + 1) _ _ _ hP hD hS (lv_sub hl [0, 1, 2, 4] rfl) h
set_option maxHeartbeats 4000000 in
set_option maxRecDepth 100000 in
theorem k_X5_heightOf_20 {p : Program} {l : Launch} {e : Env} {s : State} {m : MethodId} {args : Array Value} {below : List Frame} {meth : Method} {c : Code} {D : va_G} {cI cZ : ClassId} {a5 : Nat → Nat} {A : Nat → Prop} {r : Int32} {u1 : St} (C0 : mB p s m args meth c D cI cZ A cX5_heightOf 6 (some .int) wsX5_heightOf RX5) (N : Nat) (k14 : St → Int32 → Int32 → Int32 → Int32 → Option (Int32 × St)) (hk14 : KP_X5_heightOf_14 p l e s m args below meth c D cI cZ a5 A r u1 k14) : ∀ n : Nat, KP_X5_heightOf_20 p l e s m args below meth c D cI cZ a5 A r u1 (f_X5_heightOf_20 N k14 n) := by
  obtain ⟨hx, hb, hml, hr, hown, hts, hlocks, hA, hK, hN⟩ := id C0
  intro n
  induction n with
  | zero =>
    intro σ x2 x3 x4 x5 H locs ls hP hD hS hl h
    exact no (show (none : Option (Int32 × St)) = _ from h)
  | succ n ih =>
    intro σ x2 x3 x4 x5 H locs ls hP hD hS hl h
    rw [f_X5_heightOf_20] at h
    refine lv_iload_n hx hb dX5_heightOf_20 rfl (lv_at hl 2 rfl) ?_
    refine lv_if_le (tgt := 43) hx hb dX5_heightOf_21 (by decide) (fun hc1 => ?_) (fun hc1 => ?_)
    · rw [if_pos hc1] at h
      exact k_X5_heightOf_43 C0 N k14 hk14 σ x2 x3 x4 x5 _ _ _ hP hD hS (lv_sub hl [0, 1, 2, 3, 4] rfl) h
    · rw [if_neg hc1] at h
      refine lv_aload_n hx hb dX5_heightOf_24 rfl (lv_at hl 0 rfl) ?_
      refine va_get (D := D) (ci := 5) (v := .ref (a5 25)) (C := RX5) (T := TX5) (N := 30) hx hb hts in_X5_heightOf_X5 hown hK hP 0 rfl rfl 24 (by decide) (hts (.fieldLink RX5 67 "TermLoomModel" "ends" "[I") (by decide +kernel)) (fun _ h9 => h9) rfl dX5_heightOf_25 ?_
      refine lv_iload_n hx hb dX5_heightOf_28 rfl (lv_at hl 2 rfl) ?_
      refine lv_iconst (v := 1) hx hb dX5_heightOf_29 rfl ?_
      refine lv_isub hx hb dX5_heightOf_30 ?_
      by_cases hi : (x3 - 1) < 0 ∨ 130 ≤ ((x3 - 1)).toNatClampNeg
      · rw [if_pos hi] at h; exact no h
      rw [if_neg hi] at h
      refine va_iald (f := (σ 24)) hx hb hK hP 18 0 rfl rfl (i := (x3 - 1)) hi dX5_heightOf_31 ?_
      refine lv_iload hx hb dX5_heightOf_32 (lv_at hl 4 rfl) ?_
      refine lv_icmp_gt (tgt := 43) hx hb dX5_heightOf_34 (by decide) (fun hc2 => ?_) (fun hc2 => ?_)
      · rw [if_pos hc2] at h
        exact k_X5_heightOf_43 C0 N k14 hk14 σ x2 x3 x4 x5 _ _ _ hP hD hS (lv_sub hl [0, 1, 2, 3, 4] rfl) h
      · rw [if_neg hc2] at h
        refine lv_iinc (v := (x3 + (-1))) (lv' := [(3, .int (x3 + (-1))), (0, .ref (a5 0)), (2, .int x2), (4, .int x4), (5, .int x5)]) hx hb dX5_heightOf_37 hl (k := 2) rfl rfl (by decide) rfl (fun ls hl => ?_)
        refine lv_goto (tgt := 20) hx hb dX5_heightOf_40 (by decide) ?_
        exact ih σ x2 (x3 + (-1)) x4 x5 _ _ _ hP hD hS (lv_sub hl [1, 2, 0, 3, 4] rfl) h
set_option maxHeartbeats 4000000 in
set_option maxRecDepth 100000 in
theorem k_X5_heightOf_14 {p : Program} {l : Launch} {e : Env} {s : State} {m : MethodId} {args : Array Value} {below : List Frame} {meth : Method} {c : Code} {D : va_G} {cI cZ : ClassId} {a5 : Nat → Nat} {A : Nat → Prop} {r : Int32} {u1 : St} (C0 : mB p s m args meth c D cI cZ A cX5_heightOf 6 (some .int) wsX5_heightOf RX5) (N : Nat) : ∀ n : Nat, KP_X5_heightOf_14 p l e s m args below meth c D cI cZ a5 A r u1 (f_X5_heightOf_14 N n) := by
  obtain ⟨hx, hb, hml, hr, hown, hts, hlocks, hA, hK, hN⟩ := id C0
  intro n
  induction n with
  | zero =>
    intro σ x2 x3 x4 x5 H locs ls hP hD hS hl h
    exact no (show (none : Option (Int32 × St)) = _ from h)
  | succ n ih =>
    intro σ x2 x3 x4 x5 H locs ls hP hD hS hl h
    rw [f_X5_heightOf_14] at h
    refine lv_iload hx hb dX5_heightOf_14 (lv_at hl 4 rfl) ?_
    refine lv_iload_n hx hb dX5_heightOf_16 rfl (lv_at hl 1 rfl) ?_
    refine lv_icmp_ge (tgt := 101) hx hb dX5_heightOf_17 (by decide) (fun hc1 => ?_) (fun hc1 => ?_)
    · rw [if_pos hc1] at h
      refine lv_iload hx hb dX5_heightOf_101 (lv_at hl 3 rfl) ?_
      obtain ⟨rfl, rfl⟩ := so h
      exact ret_i C0 hP hD hS dX5_heightOf_103
    · rw [if_neg hc1] at h
      exact k_X5_heightOf_20 C0 N (f_X5_heightOf_14 N n) ih N σ x2 x3 x4 x5 _ _ _ hP hD hS (lv_sub hl [0, 1, 2, 3, 4] rfl) h
set_option maxHeartbeats 4000000 in
set_option maxRecDepth 100000 in
theorem c_X5_heightOf (l : Launch) (D : va_G) (cI cZ : ClassId) (a5 : Nat → Nat) (N : Nat) (σ : St) (x1 : Int32) : MI l yX5_heightOf wsX5_heightOf ({ frames := 1, cells := 0, slots := 0, locals := 23 } : Room) D cI cZ (wX5 a5 cI cZ) [.ref (a5 0), .int x1] σ (f_X5_heightOf N σ x1) := by
  refine MI.of (cc := cX5_heightOf) (maxL := 6) (ret := (some .int)) (own := RX5) (by decide) rfl rfl (Nat.le_of_ble_eq_true rfl) ?_
  intro r u1 h p e s m args below meth c A C0 H locs ls hP hD hS hl
  obtain ⟨hx, hb, hml, hr, hown, hts, hlocks, hA, hK, hN⟩ := id C0
  have hl : lv_has ls 6 [(0, .ref (a5 0)), (1, .int x1)] := hl
  unfold f_X5_heightOf at h
  refine lv_aload_n hx hb dX5_heightOf_0 rfl (lv_at hl 0 rfl) ?_
  refine lv_iload_n hx hb dX5_heightOf_1 rfl (lv_at hl 1 rfl) ?_
  obtain ⟨q1, hq1, h⟩ := ob h
  refine mc_i (ws' := wX5 a5 cI cZ q1.2) (wr := ([] : va_W)) [0, 1, 2, 3, 4, 5, 6, 7, 8, 9, 10, 11, 12, 13, 14, 15, 16, 17, 18, 19, 20, 21, 22] [] [0, 1, 2, 3, 4, 5, 6, 7, 8, 9, 10, 11, 12, 13, 14, 15, 16, 17, 18, 19, 20, 21, 22] (va_runV (As := [.int x1]) (rest := []) ⟨hx, hb, hml, hown, hts⟩ (c_X5_endOf l D cI cZ a5 N σ x1 q1.1 q1.2 hq1 H.size) (cwV 1 hts gX5_heightOf_X5_endOf rfl rfl rfl (by decide +kernel) ⟨Nat.le_of_ble_eq_true rfl, Nat.le_of_ble_eq_true rfl⟩) (pV [0, 1, 2, 3, 4, 5, 6, 7, 8, 9, 10, 11, 12, 13, 14, 15, 16, 17, 18, 19, 20, 21, 22] hP hD hK hN rfl rfl rfl rfl) rfl rfl hl.1 rfl (lv_room (Nat.le_of_ble_eq_true rfl)) dX5_heightOf_2 ⟨Nat.le_of_ble_eq_true rfl, Nat.le_of_ble_eq_true rfl⟩) hP hD hS hA rfl rfl rfl (by decide) rfl rfl (fun H locs hP hD hS => ?_)
  refine lv_istore_n (lv' := [(2, .int q1.1), (0, .ref (a5 0)), (1, .int x1)]) hx hb dX5_heightOf_5 rfl hl (by decide) rfl (fun ls hl => ?_)
  refine lv_iconst (v := 0) hx hb dX5_heightOf_6 rfl ?_
  refine lv_istore_n (lv' := [(3, .int 0), (2, .int q1.1), (0, .ref (a5 0)), (1, .int x1)]) hx hb dX5_heightOf_7 rfl hl (by decide) rfl (fun ls hl => ?_)
  refine lv_iconst (v := 0) hx hb dX5_heightOf_8 rfl ?_
  refine lv_istore (lv' := [(4, .int 0), (3, .int 0), (2, .int q1.1), (0, .ref (a5 0)), (1, .int x1)]) hx hb dX5_heightOf_9 hl (by decide) rfl (fun ls hl => ?_)
  refine lv_iload_n hx hb dX5_heightOf_11 rfl (lv_at hl 4 rfl) ?_
  refine lv_istore (lv' := [(5, .int x1), (4, .int 0), (3, .int 0), (2, .int q1.1), (0, .ref (a5 0)), (1, .int x1)]) hx hb dX5_heightOf_12 hl (by decide) rfl (fun ls hl => ?_)
  exact k_X5_heightOf_14 C0 N N q1.2 q1.1 0 0 x1 _ _ _ hP hD hS (lv_sub hl [4, 3, 2, 1, 0] rfl) h

theorem in_X5_lengthOf_X5 : ∀ w ∈ u_ws RX5 TX5 30, w ∈ wsX5_lengthOf := by decide +kernel
def f_X5_lengthOf (N : Nat) (σ : St) (x1 : Int32) : Option (Int32 × St) := if (x1 + 1) < 0 ∨ 4201 ≤ ((x1 + 1)).toNatClampNeg then none else if x1 < 0 ∨ 4201 ≤ (x1).toNatClampNeg then none else some (((σ 19 ((x1 + 1)).toNatClampNeg) - (σ 19 (x1).toNatClampNeg)), σ)
set_option maxHeartbeats 4000000 in
set_option maxRecDepth 100000 in
theorem c_X5_lengthOf (l : Launch) (D : va_G) (cI cZ : ClassId) (a5 : Nat → Nat) (N : Nat) (σ : St) (x1 : Int32) : MI l yX5_lengthOf wsX5_lengthOf ({ frames := 0, cells := 0, slots := 0, locals := 0 } : Room) D cI cZ (wX5 a5 cI cZ) [.ref (a5 0), .int x1] σ (f_X5_lengthOf N σ x1) := by
  refine MI.of (cc := cX5_lengthOf) (maxL := 2) (ret := (some .int)) (own := RX5) (by decide) rfl rfl (Nat.le_of_ble_eq_true rfl) ?_
  intro r u1 h p e s m args below meth c A C0 H locs ls hP hD hS hl
  obtain ⟨hx, hb, hml, hr, hown, hts, hlocks, hA, hK, hN⟩ := id C0
  have hl : lv_has ls 2 [(0, .ref (a5 0)), (1, .int x1)] := hl
  unfold f_X5_lengthOf at h
  refine lv_aload_n hx hb dX5_lengthOf_0 rfl (lv_at hl 0 rfl) ?_
  refine va_get (D := D) (ci := 5) (v := .ref (a5 20)) (C := RX5) (T := TX5) (N := 30) hx hb hts in_X5_lengthOf_X5 hown hK hP 0 rfl rfl 19 (by decide) (hts (.fieldLink RX5 51 "TermLoomModel" "begin" "[I") (by decide +kernel)) (fun _ h9 => h9) rfl dX5_lengthOf_1 ?_
  refine lv_iload_n hx hb dX5_lengthOf_4 rfl (lv_at hl 1 rfl) ?_
  refine lv_iconst (v := 1) hx hb dX5_lengthOf_5 rfl ?_
  refine lv_iadd hx hb dX5_lengthOf_6 ?_
  by_cases hi : (x1 + 1) < 0 ∨ 4201 ≤ ((x1 + 1)).toNatClampNeg
  · rw [if_pos hi] at h; exact no h
  rw [if_neg hi] at h
  refine va_iald (f := (σ 19)) hx hb hK hP 13 0 rfl rfl (i := (x1 + 1)) hi dX5_lengthOf_7 ?_
  refine lv_aload_n hx hb dX5_lengthOf_8 rfl (lv_at hl 0 rfl) ?_
  refine va_get (D := D) (ci := 5) (v := .ref (a5 20)) (C := RX5) (T := TX5) (N := 30) hx hb hts in_X5_lengthOf_X5 hown hK hP 0 rfl rfl 19 (by decide) (hts (.fieldLink RX5 51 "TermLoomModel" "begin" "[I") (by decide +kernel)) (fun _ h9 => h9) rfl dX5_lengthOf_9 ?_
  refine lv_iload_n hx hb dX5_lengthOf_12 rfl (lv_at hl 1 rfl) ?_
  by_cases hi : x1 < 0 ∨ 4201 ≤ (x1).toNatClampNeg
  · rw [if_pos hi] at h; exact no h
  rw [if_neg hi] at h
  refine va_iald (f := (σ 19)) hx hb hK hP 13 0 rfl rfl (i := x1) hi dX5_lengthOf_13 ?_
  refine lv_isub hx hb dX5_lengthOf_14 ?_
  obtain ⟨rfl, rfl⟩ := so h
  exact ret_i C0 hP hD hS dX5_lengthOf_15

theorem in_X5_topType_X5 : ∀ w ∈ u_ws RX5 TX5 30, w ∈ wsX5_topType := by decide +kernel
def f_X5_topType (N : Nat) (σ : St) (x1 : Int32) : Option (Int32 × St) := if x1 < 0 ∨ 4201 ≤ (x1).toNatClampNeg then none else if (σ 19 (x1).toNatClampNeg) < 0 ∨ 34100 ≤ ((σ 19 (x1).toNatClampNeg)).toNatClampNeg then none else some ((σ 21 ((σ 19 (x1).toNatClampNeg)).toNatClampNeg), σ)
set_option maxHeartbeats 4000000 in
set_option maxRecDepth 100000 in
theorem c_X5_topType (l : Launch) (D : va_G) (cI cZ : ClassId) (a5 : Nat → Nat) (N : Nat) (σ : St) (x1 : Int32) : MI l yX5_topType wsX5_topType ({ frames := 0, cells := 0, slots := 0, locals := 0 } : Room) D cI cZ (wX5 a5 cI cZ) [.ref (a5 0), .int x1] σ (f_X5_topType N σ x1) := by
  refine MI.of (cc := cX5_topType) (maxL := 2) (ret := (some .int)) (own := RX5) (by decide) rfl rfl (Nat.le_of_ble_eq_true rfl) ?_
  intro r u1 h p e s m args below meth c A C0 H locs ls hP hD hS hl
  obtain ⟨hx, hb, hml, hr, hown, hts, hlocks, hA, hK, hN⟩ := id C0
  have hl : lv_has ls 2 [(0, .ref (a5 0)), (1, .int x1)] := hl
  unfold f_X5_topType at h
  refine lv_aload_n hx hb dX5_topType_0 rfl (lv_at hl 0 rfl) ?_
  refine va_get (D := D) (ci := 5) (v := .ref (a5 22)) (C := RX5) (T := TX5) (N := 30) hx hb hts in_X5_topType_X5 hown hK hP 0 rfl rfl 21 (by decide) (hts (.fieldLink RX5 58 "TermLoomModel" "type" "[I") (by decide +kernel)) (fun _ h9 => h9) rfl dX5_topType_1 ?_
  refine lv_aload_n hx hb dX5_topType_4 rfl (lv_at hl 0 rfl) ?_
  refine va_get (D := D) (ci := 5) (v := .ref (a5 20)) (C := RX5) (T := TX5) (N := 30) hx hb hts in_X5_topType_X5 hown hK hP 0 rfl rfl 19 (by decide) (hts (.fieldLink RX5 51 "TermLoomModel" "begin" "[I") (by decide +kernel)) (fun _ h9 => h9) rfl dX5_topType_5 ?_
  refine lv_iload_n hx hb dX5_topType_8 rfl (lv_at hl 1 rfl) ?_
  by_cases hi : x1 < 0 ∨ 4201 ≤ (x1).toNatClampNeg
  · rw [if_pos hi] at h; exact no h
  rw [if_neg hi] at h
  refine va_iald (f := (σ 19)) hx hb hK hP 13 0 rfl rfl (i := x1) hi dX5_topType_9 ?_
  by_cases hi : (σ 19 (x1).toNatClampNeg) < 0 ∨ 34100 ≤ ((σ 19 (x1).toNatClampNeg)).toNatClampNeg
  · rw [if_pos hi] at h; exact no h
  rw [if_neg hi] at h
  refine va_iald (f := (σ 21)) hx hb hK hP 15 0 rfl rfl (i := (σ 19 (x1).toNatClampNeg)) hi dX5_topType_10 ?_
  obtain ⟨rfl, rfl⟩ := so h
  exact ret_i C0 hP hD hS dX5_topType_11

theorem in_X5_isTerm_X5 : ∀ w ∈ u_ws RX5 TX5 30, w ∈ wsX5_isTerm := by decide +kernel
def f_X5_isTerm_16 (N : Nat) (σ : St) (s0 : Int32) : Option (Int32 × St) := if s0 = 0 ∨ s0 = 1 then some (s0, σ) else none
def f_X5_isTerm (N : Nat) (σ : St) (x1 : Int32) : Option (Int32 × St) := (f_X5_outside N x1 (σ 18 0)).bind (fun q1 => if q1.1 = 0 then f_X5_isTerm_16 N σ 1 else f_X5_isTerm_16 N σ 0)
abbrev KP_X5_isTerm_16 (p : Program) (l : Launch) (e : Env) (s : State) (m : MethodId) (args : Array Value) (below : List Frame) (meth : Method) (c : Code) (D : va_G) (cI cZ : ClassId) (a5 : Nat → Nat) (A : Nat → Prop) (r : Int32) (u1 : St) (K : St → Int32 → Option (Int32 × St)) : Prop := ∀ (σ : St) (s0 : Int32) (H : Heap) (locs : List Loc) (ls : Array Slot), va_P D vwCl (wX5 a5 cI cZ σ) H → va_D A (wX5 a5 cI cZ σ) → va_S A s.heap H locs → lv_has ls 2 [] → K σ s0 = some (r, u1) → W p l e ({ frames := 1, cells := 0, slots := 0, locals := 21 } : Room) s m args below meth c H locs 0 0 (QI below args s D cI cZ (wX5 a5 cI cZ) A r u1) (F0 m 16 ls [.int s0])
set_option maxHeartbeats 4000000 in
set_option maxRecDepth 100000 in
theorem k_X5_isTerm_16 {p : Program} {l : Launch} {e : Env} {s : State} {m : MethodId} {args : Array Value} {below : List Frame} {meth : Method} {c : Code} {D : va_G} {cI cZ : ClassId} {a5 : Nat → Nat} {A : Nat → Prop} {r : Int32} {u1 : St} (C0 : mB p s m args meth c D cI cZ A cX5_isTerm 2 (some .boolean) wsX5_isTerm RX5) (N : Nat) : KP_X5_isTerm_16 p l e s m args below meth c D cI cZ a5 A r u1 (f_X5_isTerm_16 N) := by
  obtain ⟨hx, hb, hml, hr, hown, hts, hlocks, hA, hK, hN⟩ := id C0
  intro σ s0 H locs ls hP hD hS hl h
  unfold f_X5_isTerm_16 at h
  by_cases hz : s0 = 0 ∨ s0 = 1
  · rw [if_pos hz] at h
    obtain ⟨rfl, rfl⟩ := so h
    exact ret_z C0 hz hP hD hS dX5_isTerm_16
  · rw [if_neg hz] at h; exact no h
set_option maxHeartbeats 4000000 in
set_option maxRecDepth 100000 in
theorem c_X5_isTerm (l : Launch) (D : va_G) (cI cZ : ClassId) (a5 : Nat → Nat) (N : Nat) (σ : St) (x1 : Int32) : MI l yX5_isTerm wsX5_isTerm ({ frames := 1, cells := 0, slots := 0, locals := 21 } : Room) D cI cZ (wX5 a5 cI cZ) [.ref (a5 0), .int x1] σ (f_X5_isTerm N σ x1) := by
  refine MI.of (cc := cX5_isTerm) (maxL := 2) (ret := (some .boolean)) (own := RX5) (by decide) rfl rfl (Nat.le_of_ble_eq_true rfl) ?_
  intro r u1 h p e s m args below meth c A C0 H locs ls hP hD hS hl
  obtain ⟨hx, hb, hml, hr, hown, hts, hlocks, hA, hK, hN⟩ := id C0
  have hl : lv_has ls 2 [(0, .ref (a5 0)), (1, .int x1)] := hl
  unfold f_X5_isTerm at h
  refine lv_iload_n hx hb dX5_isTerm_0 rfl (lv_at hl 1 rfl) ?_
  refine lv_aload_n hx hb dX5_isTerm_1 rfl (lv_at hl 0 rfl) ?_
  refine va_get (D := D) (ci := 5) (v := .int (σ 18 0)) (C := RX5) (T := TX5) (N := 30) hx hb hts in_X5_isTerm_X5 hown hK hP 0 rfl rfl 18 (by decide) (hts (.fieldLink RX5 130 "TermLoomModel" "terms" "I") (by decide +kernel)) (fun _ h9 => h9) rfl dX5_isTerm_2 ?_
  obtain ⟨q1, hq1, h⟩ := ob h
  refine mc_i (ws' := wX5 a5 cI cZ σ) (wr := ((wX5o a5 cI cZ σ) : va_W)) [] [0, 1, 2, 3, 4, 5, 6, 7, 8, 9, 10, 11, 12, 13, 14, 15, 16, 17, 18, 19, 20, 21, 22] [0, 1, 2, 3, 4, 5, 6, 7, 8, 9, 10, 11, 12, 13, 14, 15, 16, 17, 18, 19, 20, 21, 22] (va_runS (As := [.int x1, .int (σ 18 0)]) (rest := []) ⟨hx, hb, hml, hown, hts⟩ (c_X5_outside l D cI cZ N x1 (σ 18 0) q1.1 q1.2 hq1 H.size) (va_cwS 2 hts gX5_isTerm_X5_outside rfl rfl rfl (by decide +kernel) ⟨Nat.le_of_ble_eq_true rfl, Nat.le_of_ble_eq_true rfl⟩) (pS [] hP hD hK hN rfl rfl) rfl rfl hl.1 rfl (lv_room (Nat.le_of_ble_eq_true rfl)) dX5_isTerm_5 ⟨Nat.le_of_ble_eq_true rfl, Nat.le_of_ble_eq_true rfl⟩) hP hD hS hA rfl rfl rfl (by decide) rfl rfl (fun H locs hP hD hS => ?_)
  refine lv_if_ne (tgt := 15) hx hb dX5_isTerm_8 (by decide) (fun hc2 => ?_) (fun hc2 => ?_)
  · rw [if_neg hc2] at h
    refine lv_iconst (v := 0) hx hb dX5_isTerm_15 rfl ?_
    exact k_X5_isTerm_16 C0 N σ 0 _ _ _ hP hD hS (lv_sub hl [] rfl) h
  · rw [if_pos hc2] at h
    refine lv_iconst (v := 1) hx hb dX5_isTerm_11 rfl ?_
    refine lv_goto (tgt := 16) hx hb dX5_isTerm_12 (by decide) ?_
    exact k_X5_isTerm_16 C0 N σ 1 _ _ _ hP hD hS (lv_sub hl [] rfl) h

theorem in_X5_isFree_X5 : ∀ w ∈ u_ws RX5 TX5 30, w ∈ wsX5_isFree := by decide +kernel
def f_X5_isFree_31 (N : Nat) (σ : St) (s0 : Int32) : Option (Int32 × St) := if s0 = 0 ∨ s0 = 1 then some (s0, σ) else none
def f_X5_isFree_30 (N : Nat) (σ : St) : Option (Int32 × St) := f_X5_isFree_31 N σ 0
def f_X5_isFree (N : Nat) (σ : St) (x1 : Int32) : Option (Int32 × St) := (f_X5_lengthOf N σ x1).bind (fun q1 => if q1.1 = 1 then if x1 < 0 ∨ 4201 ≤ (x1).toNatClampNeg then none else if (q1.2 19 (x1).toNatClampNeg) < 0 ∨ 34100 ≤ ((q1.2 19 (x1).toNatClampNeg)).toNatClampNeg then none else if ((q1.2 20 ((q1.2 19 (x1).toNatClampNeg)).toNatClampNeg) - (q1.2 20 ((q1.2 19 (x1).toNatClampNeg)).toNatClampNeg) / 4 * 4) = 1 then f_X5_isFree_31 N q1.2 1 else f_X5_isFree_30 N q1.2 else f_X5_isFree_30 N q1.2)
abbrev KP_X5_isFree_31 (p : Program) (l : Launch) (e : Env) (s : State) (m : MethodId) (args : Array Value) (below : List Frame) (meth : Method) (c : Code) (D : va_G) (cI cZ : ClassId) (a5 : Nat → Nat) (A : Nat → Prop) (r : Int32) (u1 : St) (K : St → Int32 → Option (Int32 × St)) : Prop := ∀ (σ : St) (s0 : Int32) (H : Heap) (locs : List Loc) (ls : Array Slot), va_P D vwCl (wX5 a5 cI cZ σ) H → va_D A (wX5 a5 cI cZ σ) → va_S A s.heap H locs → lv_has ls 2 [] → K σ s0 = some (r, u1) → W p l e ({ frames := 1, cells := 0, slots := 0, locals := 21 } : Room) s m args below meth c H locs 0 0 (QI below args s D cI cZ (wX5 a5 cI cZ) A r u1) (F0 m 31 ls [.int s0])
abbrev KP_X5_isFree_30 (p : Program) (l : Launch) (e : Env) (s : State) (m : MethodId) (args : Array Value) (below : List Frame) (meth : Method) (c : Code) (D : va_G) (cI cZ : ClassId) (a5 : Nat → Nat) (A : Nat → Prop) (r : Int32) (u1 : St) (K : St → Option (Int32 × St)) : Prop := ∀ (σ : St) (H : Heap) (locs : List Loc) (ls : Array Slot), va_P D vwCl (wX5 a5 cI cZ σ) H → va_D A (wX5 a5 cI cZ σ) → va_S A s.heap H locs → lv_has ls 2 [] → K σ = some (r, u1) → W p l e ({ frames := 1, cells := 0, slots := 0, locals := 21 } : Room) s m args below meth c H locs 0 0 (QI below args s D cI cZ (wX5 a5 cI cZ) A r u1) (F0 m 30 ls [])
set_option maxHeartbeats 4000000 in
set_option maxRecDepth 100000 in
theorem k_X5_isFree_31 {p : Program} {l : Launch} {e : Env} {s : State} {m : MethodId} {args : Array Value} {below : List Frame} {meth : Method} {c : Code} {D : va_G} {cI cZ : ClassId} {a5 : Nat → Nat} {A : Nat → Prop} {r : Int32} {u1 : St} (C0 : mB p s m args meth c D cI cZ A cX5_isFree 2 (some .boolean) wsX5_isFree RX5) (N : Nat) : KP_X5_isFree_31 p l e s m args below meth c D cI cZ a5 A r u1 (f_X5_isFree_31 N) := by
  obtain ⟨hx, hb, hml, hr, hown, hts, hlocks, hA, hK, hN⟩ := id C0
  intro σ s0 H locs ls hP hD hS hl h
  unfold f_X5_isFree_31 at h
  by_cases hz : s0 = 0 ∨ s0 = 1
  · rw [if_pos hz] at h
    obtain ⟨rfl, rfl⟩ := so h
    exact ret_z C0 hz hP hD hS dX5_isFree_31
  · rw [if_neg hz] at h; exact no h
set_option maxHeartbeats 4000000 in
set_option maxRecDepth 100000 in
theorem k_X5_isFree_30 {p : Program} {l : Launch} {e : Env} {s : State} {m : MethodId} {args : Array Value} {below : List Frame} {meth : Method} {c : Code} {D : va_G} {cI cZ : ClassId} {a5 : Nat → Nat} {A : Nat → Prop} {r : Int32} {u1 : St} (C0 : mB p s m args meth c D cI cZ A cX5_isFree 2 (some .boolean) wsX5_isFree RX5) (N : Nat) : KP_X5_isFree_30 p l e s m args below meth c D cI cZ a5 A r u1 (f_X5_isFree_30 N) := by
  obtain ⟨hx, hb, hml, hr, hown, hts, hlocks, hA, hK, hN⟩ := id C0
  intro σ H locs ls hP hD hS hl h
  unfold f_X5_isFree_30 at h
  refine lv_iconst (v := 0) hx hb dX5_isFree_30 rfl ?_
  exact k_X5_isFree_31 C0 N σ 0 _ _ _ hP hD hS (lv_sub hl [] rfl) h
set_option maxHeartbeats 4000000 in
set_option maxRecDepth 100000 in
theorem c_X5_isFree (l : Launch) (D : va_G) (cI cZ : ClassId) (a5 : Nat → Nat) (N : Nat) (σ : St) (x1 : Int32) : MI l yX5_isFree wsX5_isFree ({ frames := 1, cells := 0, slots := 0, locals := 21 } : Room) D cI cZ (wX5 a5 cI cZ) [.ref (a5 0), .int x1] σ (f_X5_isFree N σ x1) := by
  refine MI.of (cc := cX5_isFree) (maxL := 2) (ret := (some .boolean)) (own := RX5) (by decide) rfl rfl (Nat.le_of_ble_eq_true rfl) ?_
  intro r u1 h p e s m args below meth c A C0 H locs ls hP hD hS hl
  obtain ⟨hx, hb, hml, hr, hown, hts, hlocks, hA, hK, hN⟩ := id C0
  have hl : lv_has ls 2 [(0, .ref (a5 0)), (1, .int x1)] := hl
  unfold f_X5_isFree at h
  refine lv_aload_n hx hb dX5_isFree_0 rfl (lv_at hl 0 rfl) ?_
  refine lv_iload_n hx hb dX5_isFree_1 rfl (lv_at hl 1 rfl) ?_
  obtain ⟨q1, hq1, h⟩ := ob h
  refine mc_i (ws' := wX5 a5 cI cZ q1.2) (wr := ([] : va_W)) [0, 1, 2, 3, 4, 5, 6, 7, 8, 9, 10, 11, 12, 13, 14, 15, 16, 17, 18, 19, 20, 21, 22] [] [0, 1, 2, 3, 4, 5, 6, 7, 8, 9, 10, 11, 12, 13, 14, 15, 16, 17, 18, 19, 20, 21, 22] (va_runV (As := [.int x1]) (rest := []) ⟨hx, hb, hml, hown, hts⟩ (c_X5_lengthOf l D cI cZ a5 N σ x1 q1.1 q1.2 hq1 H.size) (cwV 1 hts gX5_isFree_X5_lengthOf rfl rfl rfl (by decide +kernel) ⟨Nat.le_of_ble_eq_true rfl, Nat.le_of_ble_eq_true rfl⟩) (pV [0, 1, 2, 3, 4, 5, 6, 7, 8, 9, 10, 11, 12, 13, 14, 15, 16, 17, 18, 19, 20, 21, 22] hP hD hK hN rfl rfl rfl rfl) rfl rfl hl.1 rfl (lv_room (Nat.le_of_ble_eq_true rfl)) dX5_isFree_2 ⟨Nat.le_of_ble_eq_true rfl, Nat.le_of_ble_eq_true rfl⟩) hP hD hS hA rfl rfl rfl (by decide) rfl rfl (fun H locs hP hD hS => ?_)
  refine lv_iconst (v := 1) hx hb dX5_isFree_5 rfl ?_
  refine lv_icmp_ne (tgt := 30) hx hb dX5_isFree_6 (by decide) (fun hc2 => ?_) (fun hc2 => ?_)
  · rw [if_neg hc2] at h
    exact k_X5_isFree_30 C0 N q1.2 _ _ _ hP hD hS (lv_sub hl [] rfl) h
  · rw [if_pos hc2] at h
    refine lv_aload_n hx hb dX5_isFree_9 rfl (lv_at hl 0 rfl) ?_
    refine va_get (D := D) (ci := 5) (v := .ref (a5 21)) (C := RX5) (T := TX5) (N := 30) hx hb hts in_X5_isFree_X5 hown hK hP 0 rfl rfl 20 (by decide) (hts (.fieldLink RX5 55 "TermLoomModel" "symbol" "[I") (by decide +kernel)) (fun _ h9 => h9) rfl dX5_isFree_10 ?_
    refine lv_aload_n hx hb dX5_isFree_13 rfl (lv_at hl 0 rfl) ?_
    refine va_get (D := D) (ci := 5) (v := .ref (a5 20)) (C := RX5) (T := TX5) (N := 30) hx hb hts in_X5_isFree_X5 hown hK hP 0 rfl rfl 19 (by decide) (hts (.fieldLink RX5 51 "TermLoomModel" "begin" "[I") (by decide +kernel)) (fun _ h9 => h9) rfl dX5_isFree_14 ?_
    refine lv_iload_n hx hb dX5_isFree_17 rfl (lv_at hl 1 rfl) ?_
    by_cases hi : x1 < 0 ∨ 4201 ≤ (x1).toNatClampNeg
    · rw [if_pos hi] at h; exact no h
    rw [if_neg hi] at h
    refine va_iald (f := (q1.2 19)) hx hb hK hP 13 0 rfl rfl (i := x1) hi dX5_isFree_18 ?_
    by_cases hi : (q1.2 19 (x1).toNatClampNeg) < 0 ∨ 34100 ≤ ((q1.2 19 (x1).toNatClampNeg)).toNatClampNeg
    · rw [if_pos hi] at h; exact no h
    rw [if_neg hi] at h
    refine va_iald (f := (q1.2 20)) hx hb hK hP 14 0 rfl rfl (i := (q1.2 19 (x1).toNatClampNeg)) hi dX5_isFree_19 ?_
    refine lv_iconst (v := 4) hx hb dX5_isFree_20 rfl ?_
    refine lv_irem hx hb dX5_isFree_21 (by decide) ?_
    refine lv_iconst (v := 1) hx hb dX5_isFree_22 rfl ?_
    refine lv_icmp_ne (tgt := 30) hx hb dX5_isFree_23 (by decide) (fun hc3 => ?_) (fun hc3 => ?_)
    · rw [if_neg hc3] at h
      exact k_X5_isFree_30 C0 N q1.2 _ _ _ hP hD hS (lv_sub hl [] rfl) h
    · rw [if_pos hc3] at h
      refine lv_iconst (v := 1) hx hb dX5_isFree_26 rfl ?_
      refine lv_goto (tgt := 31) hx hb dX5_isFree_27 (by decide) ?_
      exact k_X5_isFree_31 C0 N q1.2 1 _ _ _ hP hD hS (lv_sub hl [] rfl) h

theorem in_X5_keepTerm_X5 : ∀ w ∈ u_ws RX5 TX5 30, w ∈ wsX5_keepTerm := by decide +kernel
def f_X5_keepTerm_36 (N : Nat) (σ : St) (x2 : Int32) : Option (Int32 × St) := (f_X5_fail N σ x2).bind (fun q1 => some (q1.1, q1.2))
def f_X5_keepTerm (N : Nat) (σ : St) (x1 x2 : Int32) : Option (Int32 × St) := if (σ 18 0) < 0 ∨ 4201 ≤ ((σ 18 0)).toNatClampNeg then none else if 4000 < (x1 - (σ 19 ((σ 18 0)).toNatClampNeg)) then f_X5_keepTerm_36 N σ x2 else if 30000 < x1 then f_X5_keepTerm_36 N σ x2 else (f_X5_heightOf N σ (σ 19 ((σ 18 0)).toNatClampNeg)).bind (fun q3 => if q3.1 ≤ 120 then bnd (up2 q3.2 18 0 ((q3.2 18 0) + 1)) (fun σ5 => if (σ5 18 0) < 0 ∨ 4201 ≤ ((σ5 18 0)).toNatClampNeg then none else bnd (up2 σ5 19 ((σ5 18 0)).toNatClampNeg x1) (fun σ6 => some (((σ6 18 0) - 1), σ6))) else f_X5_keepTerm_36 N q3.2 x2)
abbrev KP_X5_keepTerm_36 (p : Program) (l : Launch) (e : Env) (s : State) (m : MethodId) (args : Array Value) (below : List Frame) (meth : Method) (c : Code) (D : va_G) (cI cZ : ClassId) (a5 : Nat → Nat) (A : Nat → Prop) (r : Int32) (u1 : St) (K : St → Int32 → Option (Int32 × St)) : Prop := ∀ (σ : St) (x2 : Int32) (H : Heap) (locs : List Loc) (ls : Array Slot), va_P D vwCl (wX5 a5 cI cZ σ) H → va_D A (wX5 a5 cI cZ σ) → va_S A s.heap H locs → lv_has ls 4 [(0, .ref (a5 0)), (2, .int x2)] → K σ x2 = some (r, u1) → W p l e ({ frames := 2, cells := 0, slots := 0, locals := 48 } : Room) s m args below meth c H locs 0 0 (QI below args s D cI cZ (wX5 a5 cI cZ) A r u1) (F0 m 36 ls [])
set_option maxHeartbeats 4000000 in
set_option maxRecDepth 100000 in
theorem k_X5_keepTerm_36 {p : Program} {l : Launch} {e : Env} {s : State} {m : MethodId} {args : Array Value} {below : List Frame} {meth : Method} {c : Code} {D : va_G} {cI cZ : ClassId} {a5 : Nat → Nat} {A : Nat → Prop} {r : Int32} {u1 : St} (C0 : mB p s m args meth c D cI cZ A cX5_keepTerm 4 (some .int) wsX5_keepTerm RX5) (N : Nat) : KP_X5_keepTerm_36 p l e s m args below meth c D cI cZ a5 A r u1 (f_X5_keepTerm_36 N) := by
  obtain ⟨hx, hb, hml, hr, hown, hts, hlocks, hA, hK, hN⟩ := id C0
  intro σ x2 H locs ls hP hD hS hl h
  unfold f_X5_keepTerm_36 at h
  refine lv_aload_n hx hb dX5_keepTerm_36 rfl (lv_at hl 0 rfl) ?_
  refine lv_iload_n hx hb dX5_keepTerm_37 rfl (lv_at hl 1 rfl) ?_
  obtain ⟨q1, hq1, h⟩ := ob h
  refine mc_i (ws' := wX5 a5 cI cZ q1.2) (wr := ([] : va_W)) [0, 1, 2, 3, 4, 5, 6, 7, 8, 9, 10, 11, 12, 13, 14, 15, 16, 17, 18, 19, 20, 21, 22] [] [0, 1, 2, 3, 4, 5, 6, 7, 8, 9, 10, 11, 12, 13, 14, 15, 16, 17, 18, 19, 20, 21, 22] (va_runV (As := [.int x2]) (rest := []) ⟨hx, hb, hml, hown, hts⟩ (c_X5_fail l D cI cZ a5 N σ x2 q1.1 q1.2 hq1 H.size) (cwV 1 hts gX5_keepTerm_X5_fail rfl rfl rfl (by decide +kernel) ⟨Nat.le_of_ble_eq_true rfl, Nat.le_of_ble_eq_true rfl⟩) (pV [0, 1, 2, 3, 4, 5, 6, 7, 8, 9, 10, 11, 12, 13, 14, 15, 16, 17, 18, 19, 20, 21, 22] hP hD hK hN rfl rfl rfl rfl) rfl rfl hl.1 rfl (lv_room (Nat.le_of_ble_eq_true rfl)) dX5_keepTerm_38 ⟨Nat.le_of_ble_eq_true rfl, Nat.le_of_ble_eq_true rfl⟩) hP hD hS hA rfl rfl rfl (by decide) rfl rfl (fun H locs hP hD hS => ?_)
  obtain ⟨rfl, rfl⟩ := so h
  exact ret_i C0 hP hD hS dX5_keepTerm_41
set_option maxHeartbeats 4000000 in
set_option maxRecDepth 100000 in
theorem c_X5_keepTerm (l : Launch) (D : va_G) (cI cZ : ClassId) (a5 : Nat → Nat) (N : Nat) (σ : St) (x1 x2 : Int32) : MI l yX5_keepTerm wsX5_keepTerm ({ frames := 2, cells := 0, slots := 0, locals := 48 } : Room) D cI cZ (wX5 a5 cI cZ) [.ref (a5 0), .int x1, .int x2] σ (f_X5_keepTerm N σ x1 x2) := by
  refine MI.of (cc := cX5_keepTerm) (maxL := 4) (ret := (some .int)) (own := RX5) (by decide) rfl rfl (Nat.le_of_ble_eq_true rfl) ?_
  intro r u1 h p e s m args below meth c A C0 H locs ls hP hD hS hl
  obtain ⟨hx, hb, hml, hr, hown, hts, hlocks, hA, hK, hN⟩ := id C0
  have hl : lv_has ls 4 [(0, .ref (a5 0)), (1, .int x1), (2, .int x2)] := hl
  unfold f_X5_keepTerm at h
  refine lv_aload_n hx hb dX5_keepTerm_0 rfl (lv_at hl 0 rfl) ?_
  refine va_get (D := D) (ci := 5) (v := .ref (a5 20)) (C := RX5) (T := TX5) (N := 30) hx hb hts in_X5_keepTerm_X5 hown hK hP 0 rfl rfl 19 (by decide) (hts (.fieldLink RX5 51 "TermLoomModel" "begin" "[I") (by decide +kernel)) (fun _ h9 => h9) rfl dX5_keepTerm_1 ?_
  refine lv_aload_n hx hb dX5_keepTerm_4 rfl (lv_at hl 0 rfl) ?_
  refine va_get (D := D) (ci := 5) (v := .int (σ 18 0)) (C := RX5) (T := TX5) (N := 30) hx hb hts in_X5_keepTerm_X5 hown hK hP 0 rfl rfl 18 (by decide) (hts (.fieldLink RX5 130 "TermLoomModel" "terms" "I") (by decide +kernel)) (fun _ h9 => h9) rfl dX5_keepTerm_5 ?_
  by_cases hi : (σ 18 0) < 0 ∨ 4201 ≤ ((σ 18 0)).toNatClampNeg
  · rw [if_pos hi] at h; exact no h
  rw [if_neg hi] at h
  refine va_iald (f := (σ 19)) hx hb hK hP 13 0 rfl rfl (i := (σ 18 0)) hi dX5_keepTerm_8 ?_
  refine lv_istore_n (lv' := [(3, .int (σ 19 ((σ 18 0)).toNatClampNeg)), (0, .ref (a5 0)), (1, .int x1), (2, .int x2)]) hx hb dX5_keepTerm_9 rfl hl (by decide) rfl (fun ls hl => ?_)
  refine lv_iload_n hx hb dX5_keepTerm_10 rfl (lv_at hl 2 rfl) ?_
  refine lv_iload_n hx hb dX5_keepTerm_11 rfl (lv_at hl 0 rfl) ?_
  refine lv_isub hx hb dX5_keepTerm_12 ?_
  refine lv_sipush (v := 4000) hx hb dX5_keepTerm_13 rfl ?_
  refine lv_icmp_gt (tgt := 36) hx hb dX5_keepTerm_16 (by decide) (fun hc1 => ?_) (fun hc1 => ?_)
  · rw [if_pos hc1] at h
    exact k_X5_keepTerm_36 C0 N σ x2 _ _ _ hP hD hS (lv_sub hl [1, 3] rfl) h
  · rw [if_neg hc1] at h
    refine lv_iload_n hx hb dX5_keepTerm_19 rfl (lv_at hl 2 rfl) ?_
    refine lv_sipush (v := 30000) hx hb dX5_keepTerm_20 rfl ?_
    refine lv_icmp_gt (tgt := 36) hx hb dX5_keepTerm_23 (by decide) (fun hc2 => ?_) (fun hc2 => ?_)
    · rw [if_pos hc2] at h
      exact k_X5_keepTerm_36 C0 N σ x2 _ _ _ hP hD hS (lv_sub hl [1, 3] rfl) h
    · rw [if_neg hc2] at h
      refine lv_aload_n hx hb dX5_keepTerm_26 rfl (lv_at hl 1 rfl) ?_
      refine lv_iload_n hx hb dX5_keepTerm_27 rfl (lv_at hl 0 rfl) ?_
      obtain ⟨q3, hq3, h⟩ := ob h
      refine mc_i (ws' := wX5 a5 cI cZ q3.2) (wr := ([] : va_W)) [0, 1, 2, 3, 4, 5, 6, 7, 8, 9, 10, 11, 12, 13, 14, 15, 16, 17, 18, 19, 20, 21, 22] [] [0, 1, 2, 3, 4, 5, 6, 7, 8, 9, 10, 11, 12, 13, 14, 15, 16, 17, 18, 19, 20, 21, 22] (va_runV (As := [.int (σ 19 ((σ 18 0)).toNatClampNeg)]) (rest := []) ⟨hx, hb, hml, hown, hts⟩ (c_X5_heightOf l D cI cZ a5 N σ (σ 19 ((σ 18 0)).toNatClampNeg) q3.1 q3.2 hq3 H.size) (cwV 1 hts gX5_keepTerm_X5_heightOf rfl rfl rfl (by decide +kernel) ⟨Nat.le_of_ble_eq_true rfl, Nat.le_of_ble_eq_true rfl⟩) (pV [0, 1, 2, 3, 4, 5, 6, 7, 8, 9, 10, 11, 12, 13, 14, 15, 16, 17, 18, 19, 20, 21, 22] hP hD hK hN rfl rfl rfl rfl) rfl rfl hl.1 rfl (lv_room (Nat.le_of_ble_eq_true rfl)) dX5_keepTerm_28 ⟨Nat.le_of_ble_eq_true rfl, Nat.le_of_ble_eq_true rfl⟩) hP hD hS hA rfl rfl rfl (by decide) rfl rfl (fun H locs hP hD hS => ?_)
      refine lv_bipush (v := 120) hx hb dX5_keepTerm_31 rfl ?_
      refine lv_icmp_le (tgt := 42) hx hb dX5_keepTerm_33 (by decide) (fun hc4 => ?_) (fun hc4 => ?_)
      · rw [if_pos hc4] at h
        refine lv_aload_n hx hb dX5_keepTerm_42 rfl (lv_at hl 1 rfl) ?_
        refine lv_dup hx hb dX5_keepTerm_43 rfl ?_
        refine va_get (D := D) (ci := 5) (v := .int (q3.2 18 0)) (C := RX5) (T := TX5) (N := 30) hx hb hts in_X5_keepTerm_X5 hown hK hP 0 rfl rfl 18 (by decide) (hts (.fieldLink RX5 130 "TermLoomModel" "terms" "I") (by decide +kernel)) (fun _ h9 => h9) rfl dX5_keepTerm_44 ?_
        refine lv_iconst (v := 1) hx hb dX5_keepTerm_47 rfl ?_
        refine lv_iadd hx hb dX5_keepTerm_48 ?_
        refine va_put (D := D) (ci := 5) (v := .int ((q3.2 18 0) + 1)) (ty := .int) (C := RX5) (T := TX5) (N := 30) hx hb hts in_X5_keepTerm_X5 tyX5 tyX5_ok nmX5 hown hK hP hD hS 0 rfl rfl 18 (by decide) (hts (.fieldLink RX5 130 "TermLoomModel" "terms" "I") (by decide +kernel)) (fun _ h9 => h9) rfl (by decide +kernel) rfl rfl (Nat.le_of_ble_eq_true rfl) dX5_keepTerm_49 (fun H locs hP hD hS => ?_)
        obtain ⟨σ5, eσ5, h⟩ := bn h
        have hP : va_P D vwCl (wX5 a5 cI cZ σ5) H := by rw [eσ5]; exact hP
        have hD : va_D A (wX5 a5 cI cZ σ5) := by rw [eσ5]; exact hD
        refine lv_aload_n hx hb dX5_keepTerm_52 rfl (lv_at hl 1 rfl) ?_
        refine va_get (D := D) (ci := 5) (v := .ref (a5 20)) (C := RX5) (T := TX5) (N := 30) hx hb hts in_X5_keepTerm_X5 hown hK hP 0 rfl rfl 19 (by decide) (hts (.fieldLink RX5 51 "TermLoomModel" "begin" "[I") (by decide +kernel)) (fun _ h9 => h9) rfl dX5_keepTerm_53 ?_
        refine lv_aload_n hx hb dX5_keepTerm_56 rfl (lv_at hl 1 rfl) ?_
        refine va_get (D := D) (ci := 5) (v := .int (σ5 18 0)) (C := RX5) (T := TX5) (N := 30) hx hb hts in_X5_keepTerm_X5 hown hK hP 0 rfl rfl 18 (by decide) (hts (.fieldLink RX5 130 "TermLoomModel" "terms" "I") (by decide +kernel)) (fun _ h9 => h9) rfl dX5_keepTerm_57 ?_
        refine lv_iload_n hx hb dX5_keepTerm_60 rfl (lv_at hl 2 rfl) ?_
        by_cases hi : (σ5 18 0) < 0 ∨ 4201 ≤ ((σ5 18 0)).toNatClampNeg
        · rw [if_pos hi] at h; exact no h
        rw [if_neg hi] at h
        refine va_iast (f := (σ5 19)) hx hb hK hP hD hS 13 0 rfl rfl (i := (σ5 18 0)) (x := x1) hi dX5_keepTerm_61 (fun H locs hP hD hS => ?_)
        obtain ⟨σ6, eσ6, h⟩ := bn h
        have hP : va_P D vwCl (wX5 a5 cI cZ σ6) H := by rw [eσ6]; exact hP
        have hD : va_D A (wX5 a5 cI cZ σ6) := by rw [eσ6]; exact hD
        refine lv_aload_n hx hb dX5_keepTerm_62 rfl (lv_at hl 1 rfl) ?_
        refine va_get (D := D) (ci := 5) (v := .int (σ6 18 0)) (C := RX5) (T := TX5) (N := 30) hx hb hts in_X5_keepTerm_X5 hown hK hP 0 rfl rfl 18 (by decide) (hts (.fieldLink RX5 130 "TermLoomModel" "terms" "I") (by decide +kernel)) (fun _ h9 => h9) rfl dX5_keepTerm_63 ?_
        refine lv_iconst (v := 1) hx hb dX5_keepTerm_66 rfl ?_
        refine lv_isub hx hb dX5_keepTerm_67 ?_
        obtain ⟨rfl, rfl⟩ := so h
        exact ret_i C0 hP hD hS dX5_keepTerm_68
      · rw [if_neg hc4] at h
        exact k_X5_keepTerm_36 C0 N q3.2 x2 _ _ _ hP hD hS (lv_sub hl [1, 3] rfl) h

theorem in_X5_write_X5 : ∀ w ∈ u_ws RX5 TX5 30, w ∈ wsX5_write := by decide +kernel
def f_X5_write (N : Nat) (σ : St) (x1 x2 x3 : Int32) : Option (Int32 × St) := if (σ 18 0) < 0 ∨ 4201 ≤ ((σ 18 0)).toNatClampNeg then none else if (x1 - (σ 19 ((σ 18 0)).toNatClampNeg)) ≤ 4000 then if x1 < 0 ∨ 34100 ≤ (x1).toNatClampNeg then none else bnd (up2 σ 20 (x1).toNatClampNeg x2) (fun σ2 => if x1 < 0 ∨ 34100 ≤ (x1).toNatClampNeg then none else bnd (up2 σ2 21 (x1).toNatClampNeg x3) (fun σ3 => some ((x1 + 1), σ3))) else some (x1, σ)
set_option maxHeartbeats 4000000 in
set_option maxRecDepth 100000 in
theorem c_X5_write (l : Launch) (D : va_G) (cI cZ : ClassId) (a5 : Nat → Nat) (N : Nat) (σ : St) (x1 x2 x3 : Int32) : MI l yX5_write wsX5_write ({ frames := 0, cells := 0, slots := 0, locals := 0 } : Room) D cI cZ (wX5 a5 cI cZ) [.ref (a5 0), .int x1, .int x2, .int x3] σ (f_X5_write N σ x1 x2 x3) := by
  refine MI.of (cc := cX5_write) (maxL := 4) (ret := (some .int)) (own := RX5) (by decide) rfl rfl (Nat.le_of_ble_eq_true rfl) ?_
  intro r u1 h p e s m args below meth c A C0 H locs ls hP hD hS hl
  obtain ⟨hx, hb, hml, hr, hown, hts, hlocks, hA, hK, hN⟩ := id C0
  have hl : lv_has ls 4 [(0, .ref (a5 0)), (1, .int x1), (2, .int x2), (3, .int x3)] := hl
  unfold f_X5_write at h
  refine lv_iload_n hx hb dX5_write_0 rfl (lv_at hl 1 rfl) ?_
  refine lv_aload_n hx hb dX5_write_1 rfl (lv_at hl 0 rfl) ?_
  refine va_get (D := D) (ci := 5) (v := .ref (a5 20)) (C := RX5) (T := TX5) (N := 30) hx hb hts in_X5_write_X5 hown hK hP 0 rfl rfl 19 (by decide) (hts (.fieldLink RX5 51 "TermLoomModel" "begin" "[I") (by decide +kernel)) (fun _ h9 => h9) rfl dX5_write_2 ?_
  refine lv_aload_n hx hb dX5_write_5 rfl (lv_at hl 0 rfl) ?_
  refine va_get (D := D) (ci := 5) (v := .int (σ 18 0)) (C := RX5) (T := TX5) (N := 30) hx hb hts in_X5_write_X5 hown hK hP 0 rfl rfl 18 (by decide) (hts (.fieldLink RX5 130 "TermLoomModel" "terms" "I") (by decide +kernel)) (fun _ h9 => h9) rfl dX5_write_6 ?_
  by_cases hi : (σ 18 0) < 0 ∨ 4201 ≤ ((σ 18 0)).toNatClampNeg
  · rw [if_pos hi] at h; exact no h
  rw [if_neg hi] at h
  refine va_iald (f := (σ 19)) hx hb hK hP 13 0 rfl rfl (i := (σ 18 0)) hi dX5_write_9 ?_
  refine lv_isub hx hb dX5_write_10 ?_
  refine lv_sipush (v := 4000) hx hb dX5_write_11 rfl ?_
  refine lv_icmp_le (tgt := 19) hx hb dX5_write_14 (by decide) (fun hc1 => ?_) (fun hc1 => ?_)
  · rw [if_pos hc1] at h
    refine lv_aload_n hx hb dX5_write_19 rfl (lv_at hl 0 rfl) ?_
    refine va_get (D := D) (ci := 5) (v := .ref (a5 21)) (C := RX5) (T := TX5) (N := 30) hx hb hts in_X5_write_X5 hown hK hP 0 rfl rfl 20 (by decide) (hts (.fieldLink RX5 55 "TermLoomModel" "symbol" "[I") (by decide +kernel)) (fun _ h9 => h9) rfl dX5_write_20 ?_
    refine lv_iload_n hx hb dX5_write_23 rfl (lv_at hl 1 rfl) ?_
    refine lv_iload_n hx hb dX5_write_24 rfl (lv_at hl 2 rfl) ?_
    by_cases hi : x1 < 0 ∨ 34100 ≤ (x1).toNatClampNeg
    · rw [if_pos hi] at h; exact no h
    rw [if_neg hi] at h
    refine va_iast (f := (σ 20)) hx hb hK hP hD hS 14 0 rfl rfl (i := x1) (x := x2) hi dX5_write_25 (fun H locs hP hD hS => ?_)
    obtain ⟨σ2, eσ2, h⟩ := bn h
    have hP : va_P D vwCl (wX5 a5 cI cZ σ2) H := by rw [eσ2]; exact hP
    have hD : va_D A (wX5 a5 cI cZ σ2) := by rw [eσ2]; exact hD
    refine lv_aload_n hx hb dX5_write_26 rfl (lv_at hl 0 rfl) ?_
    refine va_get (D := D) (ci := 5) (v := .ref (a5 22)) (C := RX5) (T := TX5) (N := 30) hx hb hts in_X5_write_X5 hown hK hP 0 rfl rfl 21 (by decide) (hts (.fieldLink RX5 58 "TermLoomModel" "type" "[I") (by decide +kernel)) (fun _ h9 => h9) rfl dX5_write_27 ?_
    refine lv_iload_n hx hb dX5_write_30 rfl (lv_at hl 1 rfl) ?_
    refine lv_iload_n hx hb dX5_write_31 rfl (lv_at hl 3 rfl) ?_
    by_cases hi : x1 < 0 ∨ 34100 ≤ (x1).toNatClampNeg
    · rw [if_pos hi] at h; exact no h
    rw [if_neg hi] at h
    refine va_iast (f := (σ2 21)) hx hb hK hP hD hS 15 0 rfl rfl (i := x1) (x := x3) hi dX5_write_32 (fun H locs hP hD hS => ?_)
    obtain ⟨σ3, eσ3, h⟩ := bn h
    have hP : va_P D vwCl (wX5 a5 cI cZ σ3) H := by rw [eσ3]; exact hP
    have hD : va_D A (wX5 a5 cI cZ σ3) := by rw [eσ3]; exact hD
    refine lv_iload_n hx hb dX5_write_33 rfl (lv_at hl 1 rfl) ?_
    refine lv_iconst (v := 1) hx hb dX5_write_34 rfl ?_
    refine lv_iadd hx hb dX5_write_35 ?_
    obtain ⟨rfl, rfl⟩ := so h
    exact ret_i C0 hP hD hS dX5_write_36
  · rw [if_neg hc1] at h
    refine lv_iload_n hx hb dX5_write_17 rfl (lv_at hl 1 rfl) ?_
    obtain ⟨rfl, rfl⟩ := so h
    exact ret_i C0 hP hD hS dX5_write_18

theorem in_X5_copy_X5 : ∀ w ∈ u_ws RX5 TX5 30, w ∈ wsX5_copy := by decide +kernel
def f_X5_copy_6 (N : Nat) : Nat → St → Int32 → Int32 → Int32 → Option (Int32 × St)
  | 0, _, _, _, _ => none
  | n + 1, σ, x3, x4, x5 => if x3 ≤ x5 then some (x4, σ) else if x5 < 0 ∨ 34100 ≤ (x5).toNatClampNeg then none else if x5 < 0 ∨ 34100 ≤ (x5).toNatClampNeg then none else (f_X5_write N σ x4 (σ 20 (x5).toNatClampNeg) (σ 21 (x5).toNatClampNeg)).bind (fun q2 => f_X5_copy_6 N n q2.2 x3 q2.1 (x5 + 1))
def f_X5_copy (N : Nat) (σ : St) (x1 x2 x3 : Int32) : Option (Int32 × St) := f_X5_copy_6 N N σ x3 x1 x2
abbrev KP_X5_copy_6 (p : Program) (l : Launch) (e : Env) (s : State) (m : MethodId) (args : Array Value) (below : List Frame) (meth : Method) (c : Code) (D : va_G) (cI cZ : ClassId) (a5 : Nat → Nat) (A : Nat → Prop) (r : Int32) (u1 : St) (K : St → Int32 → Int32 → Int32 → Option (Int32 × St)) : Prop := ∀ (σ : St) (x3 x4 x5 : Int32) (H : Heap) (locs : List Loc) (ls : Array Slot), va_P D vwCl (wX5 a5 cI cZ σ) H → va_D A (wX5 a5 cI cZ σ) → va_S A s.heap H locs → lv_has ls 6 [(0, .ref (a5 0)), (3, .int x3), (4, .int x4), (5, .int x5)] → K σ x3 x4 x5 = some (r, u1) → W p l e ({ frames := 1, cells := 0, slots := 0, locals := 23 } : Room) s m args below meth c H locs 0 0 (QI below args s D cI cZ (wX5 a5 cI cZ) A r u1) (F0 m 6 ls [])
set_option maxHeartbeats 4000000 in
set_option maxRecDepth 100000 in
theorem k_X5_copy_6 {p : Program} {l : Launch} {e : Env} {s : State} {m : MethodId} {args : Array Value} {below : List Frame} {meth : Method} {c : Code} {D : va_G} {cI cZ : ClassId} {a5 : Nat → Nat} {A : Nat → Prop} {r : Int32} {u1 : St} (C0 : mB p s m args meth c D cI cZ A cX5_copy 6 (some .int) wsX5_copy RX5) (N : Nat) : ∀ n : Nat, KP_X5_copy_6 p l e s m args below meth c D cI cZ a5 A r u1 (f_X5_copy_6 N n) := by
  obtain ⟨hx, hb, hml, hr, hown, hts, hlocks, hA, hK, hN⟩ := id C0
  intro n
  induction n with
  | zero =>
    intro σ x3 x4 x5 H locs ls hP hD hS hl h
    exact no (show (none : Option (Int32 × St)) = _ from h)
  | succ n ih =>
    intro σ x3 x4 x5 H locs ls hP hD hS hl h
    rw [f_X5_copy_6] at h
    refine lv_iload hx hb dX5_copy_6 (lv_at hl 3 rfl) ?_
    refine lv_iload_n hx hb dX5_copy_8 rfl (lv_at hl 1 rfl) ?_
    refine lv_icmp_ge (tgt := 40) hx hb dX5_copy_9 (by decide) (fun hc1 => ?_) (fun hc1 => ?_)
    · rw [if_pos hc1] at h
      refine lv_iload hx hb dX5_copy_40 (lv_at hl 2 rfl) ?_
      obtain ⟨rfl, rfl⟩ := so h
      exact ret_i C0 hP hD hS dX5_copy_42
    · rw [if_neg hc1] at h
      refine lv_aload_n hx hb dX5_copy_12 rfl (lv_at hl 0 rfl) ?_
      refine lv_iload hx hb dX5_copy_13 (lv_at hl 2 rfl) ?_
      refine lv_aload_n hx hb dX5_copy_15 rfl (lv_at hl 0 rfl) ?_
      refine va_get (D := D) (ci := 5) (v := .ref (a5 21)) (C := RX5) (T := TX5) (N := 30) hx hb hts in_X5_copy_X5 hown hK hP 0 rfl rfl 20 (by decide) (hts (.fieldLink RX5 55 "TermLoomModel" "symbol" "[I") (by decide +kernel)) (fun _ h9 => h9) rfl dX5_copy_16 ?_
      refine lv_iload hx hb dX5_copy_19 (lv_at hl 3 rfl) ?_
      by_cases hi : x5 < 0 ∨ 34100 ≤ (x5).toNatClampNeg
      · rw [if_pos hi] at h; exact no h
      rw [if_neg hi] at h
      refine va_iald (f := (σ 20)) hx hb hK hP 14 0 rfl rfl (i := x5) hi dX5_copy_21 ?_
      refine lv_aload_n hx hb dX5_copy_22 rfl (lv_at hl 0 rfl) ?_
      refine va_get (D := D) (ci := 5) (v := .ref (a5 22)) (C := RX5) (T := TX5) (N := 30) hx hb hts in_X5_copy_X5 hown hK hP 0 rfl rfl 21 (by decide) (hts (.fieldLink RX5 58 "TermLoomModel" "type" "[I") (by decide +kernel)) (fun _ h9 => h9) rfl dX5_copy_23 ?_
      refine lv_iload hx hb dX5_copy_26 (lv_at hl 3 rfl) ?_
      by_cases hi : x5 < 0 ∨ 34100 ≤ (x5).toNatClampNeg
      · rw [if_pos hi] at h; exact no h
      rw [if_neg hi] at h
      refine va_iald (f := (σ 21)) hx hb hK hP 15 0 rfl rfl (i := x5) hi dX5_copy_28 ?_
      obtain ⟨q2, hq2, h⟩ := ob h
      refine mc_i (ws' := wX5 a5 cI cZ q2.2) (wr := ([] : va_W)) [0, 1, 2, 3, 4, 5, 6, 7, 8, 9, 10, 11, 12, 13, 14, 15, 16, 17, 18, 19, 20, 21, 22] [] [0, 1, 2, 3, 4, 5, 6, 7, 8, 9, 10, 11, 12, 13, 14, 15, 16, 17, 18, 19, 20, 21, 22] (va_runV (As := [.int x4, .int (σ 20 (x5).toNatClampNeg), .int (σ 21 (x5).toNatClampNeg)]) (rest := []) ⟨hx, hb, hml, hown, hts⟩ (c_X5_write l D cI cZ a5 N σ x4 (σ 20 (x5).toNatClampNeg) (σ 21 (x5).toNatClampNeg) q2.1 q2.2 hq2 H.size) (cwV 3 hts gX5_copy_X5_write rfl rfl rfl (by decide +kernel) ⟨Nat.le_of_ble_eq_true rfl, Nat.le_of_ble_eq_true rfl⟩) (pV [0, 1, 2, 3, 4, 5, 6, 7, 8, 9, 10, 11, 12, 13, 14, 15, 16, 17, 18, 19, 20, 21, 22] hP hD hK hN rfl rfl rfl rfl) rfl rfl hl.1 rfl (lv_room (Nat.le_of_ble_eq_true rfl)) dX5_copy_29 ⟨Nat.le_of_ble_eq_true rfl, Nat.le_of_ble_eq_true rfl⟩) hP hD hS hA rfl rfl rfl (by decide) rfl rfl (fun H locs hP hD hS => ?_)
      refine lv_istore (lv' := [(4, .int q2.1), (0, .ref (a5 0)), (3, .int x3), (5, .int x5)]) hx hb dX5_copy_32 hl (by decide) rfl (fun ls hl => ?_)
      refine lv_iinc (v := (x5 + 1)) (lv' := [(5, .int (x5 + 1)), (4, .int q2.1), (0, .ref (a5 0)), (3, .int x3)]) hx hb dX5_copy_34 hl (k := 3) rfl rfl (by decide) rfl (fun ls hl => ?_)
      refine lv_goto (tgt := 6) hx hb dX5_copy_37 (by decide) ?_
      exact ih q2.2 x3 q2.1 (x5 + 1) _ _ _ hP hD hS (lv_sub hl [2, 3, 1, 0] rfl) h
set_option maxHeartbeats 4000000 in
set_option maxRecDepth 100000 in
theorem c_X5_copy (l : Launch) (D : va_G) (cI cZ : ClassId) (a5 : Nat → Nat) (N : Nat) (σ : St) (x1 x2 x3 : Int32) : MI l yX5_copy wsX5_copy ({ frames := 1, cells := 0, slots := 0, locals := 23 } : Room) D cI cZ (wX5 a5 cI cZ) [.ref (a5 0), .int x1, .int x2, .int x3] σ (f_X5_copy N σ x1 x2 x3) := by
  refine MI.of (cc := cX5_copy) (maxL := 6) (ret := (some .int)) (own := RX5) (by decide) rfl rfl (Nat.le_of_ble_eq_true rfl) ?_
  intro r u1 h p e s m args below meth c A C0 H locs ls hP hD hS hl
  obtain ⟨hx, hb, hml, hr, hown, hts, hlocks, hA, hK, hN⟩ := id C0
  have hl : lv_has ls 6 [(0, .ref (a5 0)), (1, .int x1), (2, .int x2), (3, .int x3)] := hl
  unfold f_X5_copy at h
  refine lv_iload_n hx hb dX5_copy_0 rfl (lv_at hl 1 rfl) ?_
  refine lv_istore (lv' := [(4, .int x1), (0, .ref (a5 0)), (1, .int x1), (2, .int x2), (3, .int x3)]) hx hb dX5_copy_1 hl (by decide) rfl (fun ls hl => ?_)
  refine lv_iload_n hx hb dX5_copy_3 rfl (lv_at hl 3 rfl) ?_
  refine lv_istore (lv' := [(5, .int x2), (4, .int x1), (0, .ref (a5 0)), (1, .int x1), (2, .int x2), (3, .int x3)]) hx hb dX5_copy_4 hl (by decide) rfl (fun ls hl => ?_)
  exact k_X5_copy_6 C0 N N σ x3 x1 x2 _ _ _ hP hD hS (lv_sub hl [2, 5, 1, 0] rfl) h

theorem in_X5_isLong_X5 : ∀ w ∈ u_ws RX5 TX5 30, w ∈ wsX5_isLong := by decide +kernel
def f_X5_isLong_22 (N : Nat) (σ : St) (s0 : Int32) : Option (Int32 × St) := if s0 = 0 ∨ s0 = 1 then some (s0, σ) else none
def f_X5_isLong (N : Nat) (σ : St) (x1 : Int32) : Option (Int32 × St) := if (σ 18 0) < 0 ∨ 4201 ≤ ((σ 18 0)).toNatClampNeg then none else if (x1 - (σ 19 ((σ 18 0)).toNatClampNeg)) ≤ 4000 then f_X5_isLong_22 N σ 0 else f_X5_isLong_22 N σ 1
abbrev KP_X5_isLong_22 (p : Program) (l : Launch) (e : Env) (s : State) (m : MethodId) (args : Array Value) (below : List Frame) (meth : Method) (c : Code) (D : va_G) (cI cZ : ClassId) (a5 : Nat → Nat) (A : Nat → Prop) (r : Int32) (u1 : St) (K : St → Int32 → Option (Int32 × St)) : Prop := ∀ (σ : St) (s0 : Int32) (H : Heap) (locs : List Loc) (ls : Array Slot), va_P D vwCl (wX5 a5 cI cZ σ) H → va_D A (wX5 a5 cI cZ σ) → va_S A s.heap H locs → lv_has ls 2 [] → K σ s0 = some (r, u1) → W p l e ({ frames := 0, cells := 0, slots := 0, locals := 0 } : Room) s m args below meth c H locs 0 0 (QI below args s D cI cZ (wX5 a5 cI cZ) A r u1) (F0 m 22 ls [.int s0])
set_option maxHeartbeats 4000000 in
set_option maxRecDepth 100000 in
theorem k_X5_isLong_22 {p : Program} {l : Launch} {e : Env} {s : State} {m : MethodId} {args : Array Value} {below : List Frame} {meth : Method} {c : Code} {D : va_G} {cI cZ : ClassId} {a5 : Nat → Nat} {A : Nat → Prop} {r : Int32} {u1 : St} (C0 : mB p s m args meth c D cI cZ A cX5_isLong 2 (some .boolean) wsX5_isLong RX5) (N : Nat) : KP_X5_isLong_22 p l e s m args below meth c D cI cZ a5 A r u1 (f_X5_isLong_22 N) := by
  obtain ⟨hx, hb, hml, hr, hown, hts, hlocks, hA, hK, hN⟩ := id C0
  intro σ s0 H locs ls hP hD hS hl h
  unfold f_X5_isLong_22 at h
  by_cases hz : s0 = 0 ∨ s0 = 1
  · rw [if_pos hz] at h
    obtain ⟨rfl, rfl⟩ := so h
    exact ret_z C0 hz hP hD hS dX5_isLong_22
  · rw [if_neg hz] at h; exact no h
set_option maxHeartbeats 4000000 in
set_option maxRecDepth 100000 in
theorem c_X5_isLong (l : Launch) (D : va_G) (cI cZ : ClassId) (a5 : Nat → Nat) (N : Nat) (σ : St) (x1 : Int32) : MI l yX5_isLong wsX5_isLong ({ frames := 0, cells := 0, slots := 0, locals := 0 } : Room) D cI cZ (wX5 a5 cI cZ) [.ref (a5 0), .int x1] σ (f_X5_isLong N σ x1) := by
  refine MI.of (cc := cX5_isLong) (maxL := 2) (ret := (some .boolean)) (own := RX5) (by decide) rfl rfl (Nat.le_of_ble_eq_true rfl) ?_
  intro r u1 h p e s m args below meth c A C0 H locs ls hP hD hS hl
  obtain ⟨hx, hb, hml, hr, hown, hts, hlocks, hA, hK, hN⟩ := id C0
  have hl : lv_has ls 2 [(0, .ref (a5 0)), (1, .int x1)] := hl
  unfold f_X5_isLong at h
  refine lv_iload_n hx hb dX5_isLong_0 rfl (lv_at hl 1 rfl) ?_
  refine lv_aload_n hx hb dX5_isLong_1 rfl (lv_at hl 0 rfl) ?_
  refine va_get (D := D) (ci := 5) (v := .ref (a5 20)) (C := RX5) (T := TX5) (N := 30) hx hb hts in_X5_isLong_X5 hown hK hP 0 rfl rfl 19 (by decide) (hts (.fieldLink RX5 51 "TermLoomModel" "begin" "[I") (by decide +kernel)) (fun _ h9 => h9) rfl dX5_isLong_2 ?_
  refine lv_aload_n hx hb dX5_isLong_5 rfl (lv_at hl 0 rfl) ?_
  refine va_get (D := D) (ci := 5) (v := .int (σ 18 0)) (C := RX5) (T := TX5) (N := 30) hx hb hts in_X5_isLong_X5 hown hK hP 0 rfl rfl 18 (by decide) (hts (.fieldLink RX5 130 "TermLoomModel" "terms" "I") (by decide +kernel)) (fun _ h9 => h9) rfl dX5_isLong_6 ?_
  by_cases hi : (σ 18 0) < 0 ∨ 4201 ≤ ((σ 18 0)).toNatClampNeg
  · rw [if_pos hi] at h; exact no h
  rw [if_neg hi] at h
  refine va_iald (f := (σ 19)) hx hb hK hP 13 0 rfl rfl (i := (σ 18 0)) hi dX5_isLong_9 ?_
  refine lv_isub hx hb dX5_isLong_10 ?_
  refine lv_sipush (v := 4000) hx hb dX5_isLong_11 rfl ?_
  refine lv_icmp_le (tgt := 21) hx hb dX5_isLong_14 (by decide) (fun hc1 => ?_) (fun hc1 => ?_)
  · rw [if_pos hc1] at h
    refine lv_iconst (v := 0) hx hb dX5_isLong_21 rfl ?_
    exact k_X5_isLong_22 C0 N σ 0 _ _ _ hP hD hS (lv_sub hl [] rfl) h
  · rw [if_neg hc1] at h
    refine lv_iconst (v := 1) hx hb dX5_isLong_17 rfl ?_
    refine lv_goto (tgt := 22) hx hb dX5_isLong_18 (by decide) ?_
    exact k_X5_isLong_22 C0 N σ 1 _ _ _ hP hD hS (lv_sub hl [] rfl) h

def f_X5_finish_22 (N : Nat) (σ : St) (s0 : Int32) : Option (Int32 × St) := some (s0, σ)
def f_X5_finish (N : Nat) (σ : St) (x1 x2 : Int32) : Option (Int32 × St) := (f_X5_isLong N σ x1).bind (fun q1 => if q1.1 = 0 then (f_X5_keepTerm N q1.2 x1 x2).bind (fun q3 => f_X5_finish_22 N q3.2 q3.1) else (f_X5_fail N q1.2 x2).bind (fun q4 => f_X5_finish_22 N q4.2 q4.1))
abbrev KP_X5_finish_22 (p : Program) (l : Launch) (e : Env) (s : State) (m : MethodId) (args : Array Value) (below : List Frame) (meth : Method) (c : Code) (D : va_G) (cI cZ : ClassId) (a5 : Nat → Nat) (A : Nat → Prop) (r : Int32) (u1 : St) (K : St → Int32 → Option (Int32 × St)) : Prop := ∀ (σ : St) (s0 : Int32) (H : Heap) (locs : List Loc) (ls : Array Slot), va_P D vwCl (wX5 a5 cI cZ σ) H → va_D A (wX5 a5 cI cZ σ) → va_S A s.heap H locs → lv_has ls 3 [] → K σ s0 = some (r, u1) → W p l e ({ frames := 3, cells := 0, slots := 0, locals := 71 } : Room) s m args below meth c H locs 0 0 (QI below args s D cI cZ (wX5 a5 cI cZ) A r u1) (F0 m 22 ls [.int s0])
set_option maxHeartbeats 4000000 in
set_option maxRecDepth 100000 in
theorem k_X5_finish_22 {p : Program} {l : Launch} {e : Env} {s : State} {m : MethodId} {args : Array Value} {below : List Frame} {meth : Method} {c : Code} {D : va_G} {cI cZ : ClassId} {a5 : Nat → Nat} {A : Nat → Prop} {r : Int32} {u1 : St} (C0 : mB p s m args meth c D cI cZ A cX5_finish 3 (some .int) wsX5_finish RX5) (N : Nat) : KP_X5_finish_22 p l e s m args below meth c D cI cZ a5 A r u1 (f_X5_finish_22 N) := by
  obtain ⟨hx, hb, hml, hr, hown, hts, hlocks, hA, hK, hN⟩ := id C0
  intro σ s0 H locs ls hP hD hS hl h
  unfold f_X5_finish_22 at h
  obtain ⟨rfl, rfl⟩ := so h
  exact ret_i C0 hP hD hS dX5_finish_22
set_option maxHeartbeats 4000000 in
set_option maxRecDepth 100000 in
theorem c_X5_finish (l : Launch) (D : va_G) (cI cZ : ClassId) (a5 : Nat → Nat) (N : Nat) (σ : St) (x1 x2 : Int32) : MI l yX5_finish wsX5_finish ({ frames := 3, cells := 0, slots := 0, locals := 71 } : Room) D cI cZ (wX5 a5 cI cZ) [.ref (a5 0), .int x1, .int x2] σ (f_X5_finish N σ x1 x2) := by
  refine MI.of (cc := cX5_finish) (maxL := 3) (ret := (some .int)) (own := RX5) (by decide) rfl rfl (Nat.le_of_ble_eq_true rfl) ?_
  intro r u1 h p e s m args below meth c A C0 H locs ls hP hD hS hl
  obtain ⟨hx, hb, hml, hr, hown, hts, hlocks, hA, hK, hN⟩ := id C0
  have hl : lv_has ls 3 [(0, .ref (a5 0)), (1, .int x1), (2, .int x2)] := hl
  unfold f_X5_finish at h
  refine lv_aload_n hx hb dX5_finish_0 rfl (lv_at hl 0 rfl) ?_
  refine lv_iload_n hx hb dX5_finish_1 rfl (lv_at hl 1 rfl) ?_
  obtain ⟨q1, hq1, h⟩ := ob h
  refine mc_i (ws' := wX5 a5 cI cZ q1.2) (wr := ([] : va_W)) [0, 1, 2, 3, 4, 5, 6, 7, 8, 9, 10, 11, 12, 13, 14, 15, 16, 17, 18, 19, 20, 21, 22] [] [0, 1, 2, 3, 4, 5, 6, 7, 8, 9, 10, 11, 12, 13, 14, 15, 16, 17, 18, 19, 20, 21, 22] (va_runV (As := [.int x1]) (rest := []) ⟨hx, hb, hml, hown, hts⟩ (c_X5_isLong l D cI cZ a5 N σ x1 q1.1 q1.2 hq1 H.size) (cwV 1 hts gX5_finish_X5_isLong rfl rfl rfl (by decide +kernel) ⟨Nat.le_of_ble_eq_true rfl, Nat.le_of_ble_eq_true rfl⟩) (pV [0, 1, 2, 3, 4, 5, 6, 7, 8, 9, 10, 11, 12, 13, 14, 15, 16, 17, 18, 19, 20, 21, 22] hP hD hK hN rfl rfl rfl rfl) rfl rfl hl.1 rfl (lv_room (Nat.le_of_ble_eq_true rfl)) dX5_finish_2 ⟨Nat.le_of_ble_eq_true rfl, Nat.le_of_ble_eq_true rfl⟩) hP hD hS hA rfl rfl rfl (by decide) rfl rfl (fun H locs hP hD hS => ?_)
  refine lv_if_eq (tgt := 16) hx hb dX5_finish_5 (by decide) (fun hc2 => ?_) (fun hc2 => ?_)
  · rw [if_pos hc2] at h
    refine lv_aload_n hx hb dX5_finish_16 rfl (lv_at hl 0 rfl) ?_
    refine lv_iload_n hx hb dX5_finish_17 rfl (lv_at hl 1 rfl) ?_
    refine lv_iload_n hx hb dX5_finish_18 rfl (lv_at hl 2 rfl) ?_
    obtain ⟨q3, hq3, h⟩ := ob h
    refine mc_i (ws' := wX5 a5 cI cZ q3.2) (wr := ([] : va_W)) [0, 1, 2, 3, 4, 5, 6, 7, 8, 9, 10, 11, 12, 13, 14, 15, 16, 17, 18, 19, 20, 21, 22] [] [0, 1, 2, 3, 4, 5, 6, 7, 8, 9, 10, 11, 12, 13, 14, 15, 16, 17, 18, 19, 20, 21, 22] (va_runV (As := [.int x1, .int x2]) (rest := []) ⟨hx, hb, hml, hown, hts⟩ (c_X5_keepTerm l D cI cZ a5 N q1.2 x1 x2 q3.1 q3.2 hq3 H.size) (cwV 2 hts gX5_finish_X5_keepTerm rfl rfl rfl (by decide +kernel) ⟨Nat.le_of_ble_eq_true rfl, Nat.le_of_ble_eq_true rfl⟩) (pV [0, 1, 2, 3, 4, 5, 6, 7, 8, 9, 10, 11, 12, 13, 14, 15, 16, 17, 18, 19, 20, 21, 22] hP hD hK hN rfl rfl rfl rfl) rfl rfl hl.1 rfl (lv_room (Nat.le_of_ble_eq_true rfl)) dX5_finish_19 ⟨Nat.le_of_ble_eq_true rfl, Nat.le_of_ble_eq_true rfl⟩) hP hD hS hA rfl rfl rfl (by decide) rfl rfl (fun H locs hP hD hS => ?_)
    exact k_X5_finish_22 C0 N q3.2 q3.1 _ _ _ hP hD hS (lv_sub hl [] rfl) h
  · rw [if_neg hc2] at h
    refine lv_aload_n hx hb dX5_finish_8 rfl (lv_at hl 0 rfl) ?_
    refine lv_iload_n hx hb dX5_finish_9 rfl (lv_at hl 2 rfl) ?_
    obtain ⟨q4, hq4, h⟩ := ob h
    refine mc_i (ws' := wX5 a5 cI cZ q4.2) (wr := ([] : va_W)) [0, 1, 2, 3, 4, 5, 6, 7, 8, 9, 10, 11, 12, 13, 14, 15, 16, 17, 18, 19, 20, 21, 22] [] [0, 1, 2, 3, 4, 5, 6, 7, 8, 9, 10, 11, 12, 13, 14, 15, 16, 17, 18, 19, 20, 21, 22] (va_runV (As := [.int x2]) (rest := []) ⟨hx, hb, hml, hown, hts⟩ (c_X5_fail l D cI cZ a5 N q1.2 x2 q4.1 q4.2 hq4 H.size) (cwV 1 hts gX5_finish_X5_fail rfl rfl rfl (by decide +kernel) ⟨Nat.le_of_ble_eq_true rfl, Nat.le_of_ble_eq_true rfl⟩) (pV [0, 1, 2, 3, 4, 5, 6, 7, 8, 9, 10, 11, 12, 13, 14, 15, 16, 17, 18, 19, 20, 21, 22] hP hD hK hN rfl rfl rfl rfl) rfl rfl hl.1 rfl (lv_room (Nat.le_of_ble_eq_true rfl)) dX5_finish_10 ⟨Nat.le_of_ble_eq_true rfl, Nat.le_of_ble_eq_true rfl⟩) hP hD hS hA rfl rfl rfl (by decide) rfl rfl (fun H locs hP hD hS => ?_)
    refine lv_goto (tgt := 22) hx hb dX5_finish_13 (by decide) ?_
    exact k_X5_finish_22 C0 N q4.2 q4.1 _ _ _ hP hD hS (lv_sub hl [] rfl) h

theorem in_X5_free_X5 : ∀ w ∈ u_ws RX5 TX5 30, w ∈ wsX5_free := by decide +kernel
def f_X5_free_31 (N : Nat) (σ : St) (x1 x2 s1 : Int32) : Option (Int32 × St) := bnd (up2 σ 0 0 s1) (fun σ1 => if (σ1 0 0) ≤ 0 then if (σ1 18 0) < 0 ∨ 4201 ≤ ((σ1 18 0)).toNatClampNeg then none else if x2 < 0 ∨ 4200 ≤ (x2).toNatClampNeg then none else (f_X5_write N σ1 (σ1 19 ((σ1 18 0)).toNatClampNeg) ((4 * x1) + 1) (σ1 15 (x2).toNatClampNeg)).bind (fun q3 => (f_X5_finish N q3.2 q3.1 3).bind (fun q4 => some (q4.1, q4.2))) else some (0, σ1))
def f_X5_free (N : Nat) (σ : St) (x1 x2 : Int32) : Option (Int32 × St) := (f_X5_outside N x2 (σ 13 0)).bind (fun q1 => if q1.1 = 0 then (f_X5_outside N x1 1000).bind (fun q3 => if q3.1 = 0 then f_X5_free_31 N σ x1 x2 0 else f_X5_free_31 N σ x1 x2 2) else f_X5_free_31 N σ x1 x2 1)
abbrev KP_X5_free_31 (p : Program) (l : Launch) (e : Env) (s : State) (m : MethodId) (args : Array Value) (below : List Frame) (meth : Method) (c : Code) (D : va_G) (cI cZ : ClassId) (a5 : Nat → Nat) (A : Nat → Prop) (r : Int32) (u1 : St) (K : St → Int32 → Int32 → Int32 → Option (Int32 × St)) : Prop := ∀ (σ : St) (x1 x2 s1 : Int32) (H : Heap) (locs : List Loc) (ls : Array Slot), va_P D vwCl (wX5 a5 cI cZ σ) H → va_D A (wX5 a5 cI cZ σ) → va_S A s.heap H locs → lv_has ls 3 [(0, .ref (a5 0)), (1, .int x1), (2, .int x2)] → K σ x1 x2 s1 = some (r, u1) → W p l e ({ frames := 4, cells := 0, slots := 0, locals := 93 } : Room) s m args below meth c H locs 0 0 (QI below args s D cI cZ (wX5 a5 cI cZ) A r u1) (F0 m 31 ls [.int s1, .ref (a5 0)])
set_option maxHeartbeats 4000000 in
set_option maxRecDepth 100000 in
theorem k_X5_free_31 {p : Program} {l : Launch} {e : Env} {s : State} {m : MethodId} {args : Array Value} {below : List Frame} {meth : Method} {c : Code} {D : va_G} {cI cZ : ClassId} {a5 : Nat → Nat} {A : Nat → Prop} {r : Int32} {u1 : St} (C0 : mB p s m args meth c D cI cZ A cX5_free 3 (some .int) wsX5_free RX5) (N : Nat) : KP_X5_free_31 p l e s m args below meth c D cI cZ a5 A r u1 (f_X5_free_31 N) := by
  obtain ⟨hx, hb, hml, hr, hown, hts, hlocks, hA, hK, hN⟩ := id C0
  intro σ x1 x2 s1 H locs ls hP hD hS hl h
  unfold f_X5_free_31 at h
  refine va_put (D := D) (ci := 5) (v := .int s1) (ty := .int) (C := RX5) (T := TX5) (N := 30) hx hb hts in_X5_free_X5 tyX5 tyX5_ok nmX5 hown hK hP hD hS 0 rfl rfl 0 (by decide) (hts (.fieldLink RX5 85 "TermLoomModel" "code" "I") (by decide +kernel)) (fun _ h9 => h9) rfl (by decide +kernel) rfl rfl (Nat.le_of_ble_eq_true rfl) dX5_free_31 (fun H locs hP hD hS => ?_)
  obtain ⟨σ1, eσ1, h⟩ := bn h
  have hP : va_P D vwCl (wX5 a5 cI cZ σ1) H := by rw [eσ1]; exact hP
  have hD : va_D A (wX5 a5 cI cZ σ1) := by rw [eσ1]; exact hD
  refine lv_aload_n hx hb dX5_free_34 rfl (lv_at hl 0 rfl) ?_
  refine va_get (D := D) (ci := 5) (v := .int (σ1 0 0)) (C := RX5) (T := TX5) (N := 30) hx hb hts in_X5_free_X5 hown hK hP 0 rfl rfl 0 (by decide) (hts (.fieldLink RX5 85 "TermLoomModel" "code" "I") (by decide +kernel)) (fun _ h9 => h9) rfl dX5_free_35 ?_
  refine lv_if_le (tgt := 43) hx hb dX5_free_38 (by decide) (fun hc2 => ?_) (fun hc2 => ?_)
  · rw [if_pos hc2] at h
    refine lv_aload_n hx hb dX5_free_43 rfl (lv_at hl 0 rfl) ?_
    refine lv_aload_n hx hb dX5_free_44 rfl (lv_at hl 0 rfl) ?_
    refine lv_aload_n hx hb dX5_free_45 rfl (lv_at hl 0 rfl) ?_
    refine va_get (D := D) (ci := 5) (v := .ref (a5 20)) (C := RX5) (T := TX5) (N := 30) hx hb hts in_X5_free_X5 hown hK hP 0 rfl rfl 19 (by decide) (hts (.fieldLink RX5 51 "TermLoomModel" "begin" "[I") (by decide +kernel)) (fun _ h9 => h9) rfl dX5_free_46 ?_
    refine lv_aload_n hx hb dX5_free_49 rfl (lv_at hl 0 rfl) ?_
    refine va_get (D := D) (ci := 5) (v := .int (σ1 18 0)) (C := RX5) (T := TX5) (N := 30) hx hb hts in_X5_free_X5 hown hK hP 0 rfl rfl 18 (by decide) (hts (.fieldLink RX5 130 "TermLoomModel" "terms" "I") (by decide +kernel)) (fun _ h9 => h9) rfl dX5_free_50 ?_
    by_cases hi : (σ1 18 0) < 0 ∨ 4201 ≤ ((σ1 18 0)).toNatClampNeg
    · rw [if_pos hi] at h; exact no h
    rw [if_neg hi] at h
    refine va_iald (f := (σ1 19)) hx hb hK hP 13 0 rfl rfl (i := (σ1 18 0)) hi dX5_free_53 ?_
    refine lv_iconst (v := 4) hx hb dX5_free_54 rfl ?_
    refine lv_iload_n hx hb dX5_free_55 rfl (lv_at hl 1 rfl) ?_
    refine lv_imul hx hb dX5_free_56 ?_
    refine lv_iconst (v := 1) hx hb dX5_free_57 rfl ?_
    refine lv_iadd hx hb dX5_free_58 ?_
    refine lv_aload_n hx hb dX5_free_59 rfl (lv_at hl 0 rfl) ?_
    refine va_get (D := D) (ci := 5) (v := .ref (a5 16)) (C := RX5) (T := TX5) (N := 30) hx hb hts in_X5_free_X5 hown hK hP 0 rfl rfl 15 (by decide) (hts (.fieldLink RX5 41 "TermLoomModel" "typeAt" "[I") (by decide +kernel)) (fun _ h9 => h9) rfl dX5_free_60 ?_
    refine lv_iload_n hx hb dX5_free_63 rfl (lv_at hl 2 rfl) ?_
    by_cases hi : x2 < 0 ∨ 4200 ≤ (x2).toNatClampNeg
    · rw [if_pos hi] at h; exact no h
    rw [if_neg hi] at h
    refine va_iald (f := (σ1 15)) hx hb hK hP 10 0 rfl rfl (i := x2) hi dX5_free_64 ?_
    obtain ⟨q3, hq3, h⟩ := ob h
    refine mc_i (ws' := wX5 a5 cI cZ q3.2) (wr := ([] : va_W)) [0, 1, 2, 3, 4, 5, 6, 7, 8, 9, 10, 11, 12, 13, 14, 15, 16, 17, 18, 19, 20, 21, 22] [] [0, 1, 2, 3, 4, 5, 6, 7, 8, 9, 10, 11, 12, 13, 14, 15, 16, 17, 18, 19, 20, 21, 22] (va_runV (As := [.int (σ1 19 ((σ1 18 0)).toNatClampNeg), .int ((4 * x1) + 1), .int (σ1 15 (x2).toNatClampNeg)]) (rest := [.ref (a5 0)]) ⟨hx, hb, hml, hown, hts⟩ (c_X5_write l D cI cZ a5 N σ1 (σ1 19 ((σ1 18 0)).toNatClampNeg) ((4 * x1) + 1) (σ1 15 (x2).toNatClampNeg) q3.1 q3.2 hq3 H.size) (cwV 3 hts gX5_free_X5_write rfl rfl rfl (by decide +kernel) ⟨Nat.le_of_ble_eq_true rfl, Nat.le_of_ble_eq_true rfl⟩) (pV [0, 1, 2, 3, 4, 5, 6, 7, 8, 9, 10, 11, 12, 13, 14, 15, 16, 17, 18, 19, 20, 21, 22] hP hD hK hN rfl rfl rfl rfl) rfl rfl hl.1 rfl (lv_room (Nat.le_of_ble_eq_true rfl)) dX5_free_65 ⟨Nat.le_of_ble_eq_true rfl, Nat.le_of_ble_eq_true rfl⟩) hP hD hS hA rfl rfl rfl (by decide) rfl rfl (fun H locs hP hD hS => ?_)
    refine lv_iconst (v := 3) hx hb dX5_free_68 rfl ?_
    obtain ⟨q4, hq4, h⟩ := ob h
    refine mc_i (ws' := wX5 a5 cI cZ q4.2) (wr := ([] : va_W)) [0, 1, 2, 3, 4, 5, 6, 7, 8, 9, 10, 11, 12, 13, 14, 15, 16, 17, 18, 19, 20, 21, 22] [] [0, 1, 2, 3, 4, 5, 6, 7, 8, 9, 10, 11, 12, 13, 14, 15, 16, 17, 18, 19, 20, 21, 22] (va_runV (As := [.int q3.1, .int 3]) (rest := []) ⟨hx, hb, hml, hown, hts⟩ (c_X5_finish l D cI cZ a5 N q3.2 q3.1 3 q4.1 q4.2 hq4 H.size) (cwV 2 hts gX5_free_X5_finish rfl rfl rfl (by decide +kernel) ⟨Nat.le_of_ble_eq_true rfl, Nat.le_of_ble_eq_true rfl⟩) (pV [0, 1, 2, 3, 4, 5, 6, 7, 8, 9, 10, 11, 12, 13, 14, 15, 16, 17, 18, 19, 20, 21, 22] hP hD hK hN rfl rfl rfl rfl) rfl rfl hl.1 rfl (lv_room (Nat.le_of_ble_eq_true rfl)) dX5_free_69 ⟨Nat.le_of_ble_eq_true rfl, Nat.le_of_ble_eq_true rfl⟩) hP hD hS hA rfl rfl rfl (by decide) rfl rfl (fun H locs hP hD hS => ?_)
    obtain ⟨rfl, rfl⟩ := so h
    exact ret_i C0 hP hD hS dX5_free_72
  · rw [if_neg hc2] at h
    refine lv_iconst (v := 0) hx hb dX5_free_41 rfl ?_
    obtain ⟨rfl, rfl⟩ := so h
    exact ret_i C0 hP hD hS dX5_free_42
set_option maxHeartbeats 4000000 in
set_option maxRecDepth 100000 in
theorem c_X5_free (l : Launch) (D : va_G) (cI cZ : ClassId) (a5 : Nat → Nat) (N : Nat) (σ : St) (x1 x2 : Int32) : MI l yX5_free wsX5_free ({ frames := 4, cells := 0, slots := 0, locals := 93 } : Room) D cI cZ (wX5 a5 cI cZ) [.ref (a5 0), .int x1, .int x2] σ (f_X5_free N σ x1 x2) := by
  refine MI.of (cc := cX5_free) (maxL := 3) (ret := (some .int)) (own := RX5) (by decide) rfl rfl (Nat.le_of_ble_eq_true rfl) ?_
  intro r u1 h p e s m args below meth c A C0 H locs ls hP hD hS hl
  obtain ⟨hx, hb, hml, hr, hown, hts, hlocks, hA, hK, hN⟩ := id C0
  have hl : lv_has ls 3 [(0, .ref (a5 0)), (1, .int x1), (2, .int x2)] := hl
  unfold f_X5_free at h
  refine lv_aload_n hx hb dX5_free_0 rfl (lv_at hl 0 rfl) ?_
  refine lv_iload_n hx hb dX5_free_1 rfl (lv_at hl 2 rfl) ?_
  refine lv_aload_n hx hb dX5_free_2 rfl (lv_at hl 0 rfl) ?_
  refine va_get (D := D) (ci := 5) (v := .int (σ 13 0)) (C := RX5) (T := TX5) (N := 30) hx hb hts in_X5_free_X5 hown hK hP 0 rfl rfl 13 (by decide) (hts (.fieldLink RX5 110 "TermLoomModel" "types" "I") (by decide +kernel)) (fun _ h9 => h9) rfl dX5_free_3 ?_
  obtain ⟨q1, hq1, h⟩ := ob h
  refine mc_i (ws' := wX5 a5 cI cZ σ) (wr := ((wX5o a5 cI cZ σ) : va_W)) [] [0, 1, 2, 3, 4, 5, 6, 7, 8, 9, 10, 11, 12, 13, 14, 15, 16, 17, 18, 19, 20, 21, 22] [0, 1, 2, 3, 4, 5, 6, 7, 8, 9, 10, 11, 12, 13, 14, 15, 16, 17, 18, 19, 20, 21, 22] (va_runS (As := [.int x2, .int (σ 13 0)]) (rest := [.ref (a5 0)]) ⟨hx, hb, hml, hown, hts⟩ (c_X5_outside l D cI cZ N x2 (σ 13 0) q1.1 q1.2 hq1 H.size) (va_cwS 2 hts gX5_free_X5_outside rfl rfl rfl (by decide +kernel) ⟨Nat.le_of_ble_eq_true rfl, Nat.le_of_ble_eq_true rfl⟩) (pS [] hP hD hK hN rfl rfl) rfl rfl hl.1 rfl (lv_room (Nat.le_of_ble_eq_true rfl)) dX5_free_6 ⟨Nat.le_of_ble_eq_true rfl, Nat.le_of_ble_eq_true rfl⟩) hP hD hS hA rfl rfl rfl (by decide) rfl rfl (fun H locs hP hD hS => ?_)
  refine lv_if_eq (tgt := 16) hx hb dX5_free_9 (by decide) (fun hc2 => ?_) (fun hc2 => ?_)
  · rw [if_pos hc2] at h
    refine lv_iload_n hx hb dX5_free_16 rfl (lv_at hl 1 rfl) ?_
    refine lv_sipush (v := 1000) hx hb dX5_free_17 rfl ?_
    obtain ⟨q3, hq3, h⟩ := ob h
    refine mc_i (ws' := wX5 a5 cI cZ σ) (wr := ((wX5o a5 cI cZ σ) : va_W)) [] [0, 1, 2, 3, 4, 5, 6, 7, 8, 9, 10, 11, 12, 13, 14, 15, 16, 17, 18, 19, 20, 21, 22] [0, 1, 2, 3, 4, 5, 6, 7, 8, 9, 10, 11, 12, 13, 14, 15, 16, 17, 18, 19, 20, 21, 22] (va_runS (As := [.int x1, .int 1000]) (rest := [.ref (a5 0)]) ⟨hx, hb, hml, hown, hts⟩ (c_X5_outside l D cI cZ N x1 1000 q3.1 q3.2 hq3 H.size) (va_cwS 2 hts gX5_free_X5_outside rfl rfl rfl (by decide +kernel) ⟨Nat.le_of_ble_eq_true rfl, Nat.le_of_ble_eq_true rfl⟩) (pS [] hP hD hK hN rfl rfl) rfl rfl hl.1 rfl (lv_room (Nat.le_of_ble_eq_true rfl)) dX5_free_20 ⟨Nat.le_of_ble_eq_true rfl, Nat.le_of_ble_eq_true rfl⟩) hP hD hS hA rfl rfl rfl (by decide) rfl rfl (fun H locs hP hD hS => ?_)
    refine lv_if_eq (tgt := 30) hx hb dX5_free_23 (by decide) (fun hc4 => ?_) (fun hc4 => ?_)
    · rw [if_pos hc4] at h
      refine lv_iconst (v := 0) hx hb dX5_free_30 rfl ?_
      exact k_X5_free_31 C0 N σ x1 x2 0 _ _ _ hP hD hS (lv_sub hl [0, 1, 2] rfl) h
    · rw [if_neg hc4] at h
      refine lv_iconst (v := 2) hx hb dX5_free_26 rfl ?_
      refine lv_goto (tgt := 31) hx hb dX5_free_27 (by decide) ?_
      exact k_X5_free_31 C0 N σ x1 x2 2 _ _ _ hP hD hS (lv_sub hl [0, 1, 2] rfl) h
  · rw [if_neg hc2] at h
    refine lv_iconst (v := 1) hx hb dX5_free_12 rfl ?_
    refine lv_goto (tgt := 31) hx hb dX5_free_13 (by decide) ?_
    exact k_X5_free_31 C0 N σ x1 x2 1 _ _ _ hP hD hS (lv_sub hl [0, 1, 2] rfl) h
