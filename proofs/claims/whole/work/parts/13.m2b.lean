theorem in_X2_forgetFrom_X2 : ∀ w ∈ u_ws RX2 TX2 14, w ∈ wsX2_forgetFrom := by decide +kernel
def f_X2_forgetFrom_67 (N : Nat) (y : St) : Option (St) := some y
def f_X2_forgetFrom_15 (N : Nat) : Nat → St → Int32 → Int32 → Option (St)
  | 0, _, _, _ => none
  | n + 1, y, x1, x3 => if x3 < x1 then f_X2_forgetFrom_67 N y else if x3 < 0 then f_X2_forgetFrom_67 N y else if x3 < 0 ∨ 8000 ≤ (x3).toNatClampNeg then none else if x3 < 0 ∨ 8000 ≤ (x3).toNatClampNeg then none else if x3 < 0 ∨ 8000 ≤ (x3).toNatClampNeg then none else (f_X2_bucketOf N (y 0 (x3).toNatClampNeg) (y 1 (x3).toNatClampNeg) (y 2 (x3).toNatClampNeg)).bind (fun q3 => if x3 < 0 ∨ 8000 ≤ (x3).toNatClampNeg then none else if q3.1 < 0 ∨ 4096 ≤ (q3.1).toNatClampNeg then none else bnd (up2 y 6 (q3.1).toNatClampNeg (y 5 (x3).toNatClampNeg)) (fun y4 => bnd (up2 y4 10 0 x3) (fun y5 => f_X2_forgetFrom_15 N n y5 x1 (x3 + (-1)))))
def f_X2_forgetFrom (N : Nat) (y : St) (x1 : Int32) : Option (St) := f_X2_forgetFrom_15 N N y x1 ((if 8000 < (y 10 0) then 8000 else (y 10 0)) - 1)
abbrev KP_X2_forgetFrom_67 (p : Program) (l : Launch) (e : Env) (s : State) (m : MethodId) (args : Array Value) (below : List Frame) (meth : Method) (c : Code) (D : va_G) (cI cZ : ClassId) (a2 : Nat → Nat) (A : Nat → Prop) (u1 : St) (K : St → Option (St)) : Prop := ∀ (y : St) (H : Heap) (locs : List Loc) (ls : Array Slot), va_P D vwCl (wX2 a2 cI cZ y) H → va_D A (wX2 a2 cI cZ y) → va_S A s.heap H locs → lv_has ls 4 [] → K y = some u1 → W p l e ({ frames := 1, cells := 0, slots := 0, locals := 23 } : Room) s m args below meth c H locs 0 0 (QV below args s D cI cZ (wX2 a2 cI cZ) A u1) (F0 m 67 ls [])
abbrev KP_X2_forgetFrom_15 (p : Program) (l : Launch) (e : Env) (s : State) (m : MethodId) (args : Array Value) (below : List Frame) (meth : Method) (c : Code) (D : va_G) (cI cZ : ClassId) (a2 : Nat → Nat) (A : Nat → Prop) (u1 : St) (K : St → Int32 → Int32 → Option (St)) : Prop := ∀ (y : St) (x1 x3 : Int32) (H : Heap) (locs : List Loc) (ls : Array Slot), va_P D vwCl (wX2 a2 cI cZ y) H → va_D A (wX2 a2 cI cZ y) → va_S A s.heap H locs → lv_has ls 4 [(0, .ref (a2 0)), (1, .int x1), (3, .int x3)] → K y x1 x3 = some u1 → W p l e ({ frames := 1, cells := 0, slots := 0, locals := 23 } : Room) s m args below meth c H locs 0 0 (QV below args s D cI cZ (wX2 a2 cI cZ) A u1) (F0 m 15 ls [])
set_option maxHeartbeats 4000000 in
set_option maxRecDepth 100000 in
theorem k_X2_forgetFrom_67 {p : Program} {l : Launch} {e : Env} {s : State} {m : MethodId} {args : Array Value} {below : List Frame} {meth : Method} {c : Code} {D : va_G} {cI cZ : ClassId} {a2 : Nat → Nat} {A : Nat → Prop} {u1 : St} (C0 : mB p s m args meth c D cI cZ A cX2_forgetFrom 4 none wsX2_forgetFrom RX2) (N : Nat) : KP_X2_forgetFrom_67 p l e s m args below meth c D cI cZ a2 A u1 (f_X2_forgetFrom_67 N) := by
  obtain ⟨hx, hb, hml, hr, hown, hts, hlocks, hA, hK, hN⟩ := id C0
  intro y H locs ls hP hD hS hl h
  unfold f_X2_forgetFrom_67 at h
  obtain rfl := so1 h
  exact ret_v C0 hP hD hS dX2_forgetFrom_67
set_option maxHeartbeats 4000000 in
set_option maxRecDepth 100000 in
theorem k_X2_forgetFrom_15 {p : Program} {l : Launch} {e : Env} {s : State} {m : MethodId} {args : Array Value} {below : List Frame} {meth : Method} {c : Code} {D : va_G} {cI cZ : ClassId} {a2 : Nat → Nat} {A : Nat → Prop} {u1 : St} (C0 : mB p s m args meth c D cI cZ A cX2_forgetFrom 4 none wsX2_forgetFrom RX2) (N : Nat) : ∀ n : Nat, KP_X2_forgetFrom_15 p l e s m args below meth c D cI cZ a2 A u1 (f_X2_forgetFrom_15 N n) := by
  obtain ⟨hx, hb, hml, hr, hown, hts, hlocks, hA, hK, hN⟩ := id C0
  intro n
  induction n with
  | zero =>
    intro y x1 x3 H locs ls hP hD hS hl h
    exact no (show (none : Option (St)) = _ from h)
  | succ n ih =>
    intro y x1 x3 H locs ls hP hD hS hl h
    rw [f_X2_forgetFrom_15] at h
    refine lv_iload_n hx hb dX2_forgetFrom_15 rfl (lv_at hl 2 rfl) ?_
    refine lv_iload_n hx hb dX2_forgetFrom_16 rfl (lv_at hl 1 rfl) ?_
    refine lv_icmp_lt (tgt := 67) hx hb dX2_forgetFrom_17 (by decide) (fun hc1 => ?_) (fun hc1 => ?_)
    · rw [if_pos hc1] at h
      exact k_X2_forgetFrom_67 C0 N y _ _ _ hP hD hS (lv_sub hl [] rfl) h
    · rw [if_neg hc1] at h
      refine lv_iload_n hx hb dX2_forgetFrom_20 rfl (lv_at hl 2 rfl) ?_
      refine lv_if_lt (tgt := 67) hx hb dX2_forgetFrom_21 (by decide) (fun hc2 => ?_) (fun hc2 => ?_)
      · rw [if_pos hc2] at h
        exact k_X2_forgetFrom_67 C0 N y _ _ _ hP hD hS (lv_sub hl [] rfl) h
      · rw [if_neg hc2] at h
        refine lv_aload_n hx hb dX2_forgetFrom_24 rfl (lv_at hl 0 rfl) ?_
        refine va_get (D := D) (ci := 2) (v := .ref (a2 7)) (C := RX2) (T := TX2) (N := 14) hx hb hts in_X2_forgetFrom_X2 hown hK hP 0 rfl rfl 6 (by decide) (hts (.fieldLink RX2 30 "TermLoom$TypeTable" "buckets" "[I") (by decide +kernel)) (fun _ h9 => h9) rfl dX2_forgetFrom_25 ?_
        refine lv_aload_n hx hb dX2_forgetFrom_28 rfl (lv_at hl 0 rfl) ?_
        refine va_get (D := D) (ci := 2) (v := .ref (a2 1)) (C := RX2) (T := TX2) (N := 14) hx hb hts in_X2_forgetFrom_X2 hown hK hP 0 rfl rfl 0 (by decide) (hts (.fieldLink RX2 9 "TermLoom$TypeTable" "heads" "[I") (by decide +kernel)) (fun _ h9 => h9) rfl dX2_forgetFrom_29 ?_
        refine lv_iload_n hx hb dX2_forgetFrom_32 rfl (lv_at hl 2 rfl) ?_
        by_cases hi : x3 < 0 ∨ 8000 ≤ (x3).toNatClampNeg
        · rw [if_pos hi] at h; exact no h
        rw [if_neg hi] at h
        refine va_iald (f := (y 0)) hx hb hK hP 1 0 rfl rfl (i := x3) hi dX2_forgetFrom_33 ?_
        refine lv_aload_n hx hb dX2_forgetFrom_34 rfl (lv_at hl 0 rfl) ?_
        refine va_get (D := D) (ci := 2) (v := .ref (a2 2)) (C := RX2) (T := TX2) (N := 14) hx hb hts in_X2_forgetFrom_X2 hown hK hP 0 rfl rfl 1 (by decide) (hts (.fieldLink RX2 15 "TermLoom$TypeTable" "firsts" "[I") (by decide +kernel)) (fun _ h9 => h9) rfl dX2_forgetFrom_35 ?_
        refine lv_iload_n hx hb dX2_forgetFrom_38 rfl (lv_at hl 2 rfl) ?_
        by_cases hi : x3 < 0 ∨ 8000 ≤ (x3).toNatClampNeg
        · rw [if_pos hi] at h; exact no h
        rw [if_neg hi] at h
        refine va_iald (f := (y 1)) hx hb hK hP 2 0 rfl rfl (i := x3) hi dX2_forgetFrom_39 ?_
        refine lv_aload_n hx hb dX2_forgetFrom_40 rfl (lv_at hl 0 rfl) ?_
        refine va_get (D := D) (ci := 2) (v := .ref (a2 3)) (C := RX2) (T := TX2) (N := 14) hx hb hts in_X2_forgetFrom_X2 hown hK hP 0 rfl rfl 2 (by decide) (hts (.fieldLink RX2 18 "TermLoom$TypeTable" "seconds" "[I") (by decide +kernel)) (fun _ h9 => h9) rfl dX2_forgetFrom_41 ?_
        refine lv_iload_n hx hb dX2_forgetFrom_44 rfl (lv_at hl 2 rfl) ?_
        by_cases hi : x3 < 0 ∨ 8000 ≤ (x3).toNatClampNeg
        · rw [if_pos hi] at h; exact no h
        rw [if_neg hi] at h
        refine va_iald (f := (y 2)) hx hb hK hP 3 0 rfl rfl (i := x3) hi dX2_forgetFrom_45 ?_
        obtain ⟨q3, hq3, h⟩ := ob h
        refine mc_i (ws' := wX2 a2 cI cZ y) (wr := ((wX2o a2 cI cZ y) : va_W)) [] [0, 1, 2, 3, 4, 5, 6, 7, 8, 9, 10] [0, 1, 2, 3, 4, 5, 6, 7, 8, 9, 10] (va_runS (As := [.int (y 0 (x3).toNatClampNeg), .int (y 1 (x3).toNatClampNeg), .int (y 2 (x3).toNatClampNeg)]) (rest := [.ref (a2 7)]) ⟨hx, hb, hml, hown, hts⟩ (c_X2_bucketOf l D cI cZ N (y 0 (x3).toNatClampNeg) (y 1 (x3).toNatClampNeg) (y 2 (x3).toNatClampNeg) q3.1 q3.2 hq3 H.size) (va_cwS 3 hts gX2_forgetFrom_X2_bucketOf rfl rfl rfl (by decide +kernel) ⟨Nat.le_of_ble_eq_true rfl, Nat.le_of_ble_eq_true rfl⟩) (pS [] hP hD hK hN rfl rfl) rfl rfl hl.1 rfl (lv_room (Nat.le_of_ble_eq_true rfl)) dX2_forgetFrom_46 ⟨Nat.le_of_ble_eq_true rfl, Nat.le_of_ble_eq_true rfl⟩) hP hD hS hA rfl rfl rfl (by decide) rfl rfl (fun H locs hP hD hS => ?_)
        refine lv_aload_n hx hb dX2_forgetFrom_49 rfl (lv_at hl 0 rfl) ?_
        refine va_get (D := D) (ci := 2) (v := .ref (a2 6)) (C := RX2) (T := TX2) (N := 14) hx hb hts in_X2_forgetFrom_X2 hown hK hP 0 rfl rfl 5 (by decide) (hts (.fieldLink RX2 27 "TermLoom$TypeTable" "older" "[I") (by decide +kernel)) (fun _ h9 => h9) rfl dX2_forgetFrom_50 ?_
        refine lv_iload_n hx hb dX2_forgetFrom_53 rfl (lv_at hl 2 rfl) ?_
        by_cases hi : x3 < 0 ∨ 8000 ≤ (x3).toNatClampNeg
        · rw [if_pos hi] at h; exact no h
        rw [if_neg hi] at h
        refine va_iald (f := (y 5)) hx hb hK hP 6 0 rfl rfl (i := x3) hi dX2_forgetFrom_54 ?_
        by_cases hi : q3.1 < 0 ∨ 4096 ≤ (q3.1).toNatClampNeg
        · rw [if_pos hi] at h; exact no h
        rw [if_neg hi] at h
        refine va_iast (f := (y 6)) hx hb hK hP hD hS 7 0 rfl rfl (i := q3.1) (x := (y 5 (x3).toNatClampNeg)) hi dX2_forgetFrom_55 (fun H locs hP hD hS => ?_)
        obtain ⟨y4, ey4, h⟩ := bn h
        have hP : va_P D vwCl (wX2 a2 cI cZ y4) H := by rw [ey4]; exact hP
        have hD : va_D A (wX2 a2 cI cZ y4) := by rw [ey4]; exact hD
        refine lv_aload_n hx hb dX2_forgetFrom_56 rfl (lv_at hl 0 rfl) ?_
        refine lv_iload_n hx hb dX2_forgetFrom_57 rfl (lv_at hl 2 rfl) ?_
        refine va_put (D := D) (ci := 2) (v := .int x3) (ty := .int) (C := RX2) (T := TX2) (N := 14) hx hb hts in_X2_forgetFrom_X2 tyX2 tyX2_ok nmX2 hown hK hP hD hS 0 rfl rfl 10 (by decide) (hts (.fieldLink RX2 48 "TermLoom$TypeTable" "count" "I") (by decide +kernel)) (fun _ h9 => h9) rfl (by decide +kernel) rfl rfl (Nat.le_of_ble_eq_true rfl) dX2_forgetFrom_58 (fun H locs hP hD hS => ?_)
        obtain ⟨y5, ey5, h⟩ := bn h
        have hP : va_P D vwCl (wX2 a2 cI cZ y5) H := by rw [ey5]; exact hP
        have hD : va_D A (wX2 a2 cI cZ y5) := by rw [ey5]; exact hD
        refine lv_iinc (v := (x3 + (-1))) (lv' := [(3, .int (x3 + (-1))), (0, .ref (a2 0)), (1, .int x1)]) hx hb dX2_forgetFrom_61 hl (k := 2) rfl rfl (by decide) rfl (fun ls hl => ?_)
        refine lv_goto (tgt := 15) hx hb dX2_forgetFrom_64 (by decide) ?_
        exact ih y5 x1 (x3 + (-1)) _ _ _ hP hD hS (lv_sub hl [1, 2, 0] rfl) h
set_option maxHeartbeats 4000000 in
set_option maxRecDepth 100000 in
theorem c_X2_forgetFrom (l : Launch) (D : va_G) (cI cZ : ClassId) (a2 : Nat → Nat) (N : Nat) (y : St) (x1 : Int32) : MV l yX2_forgetFrom wsX2_forgetFrom ({ frames := 1, cells := 0, slots := 0, locals := 23 } : Room) D cI cZ (wX2 a2 cI cZ) [.ref (a2 0), .int x1] y (f_X2_forgetFrom N y x1) := by
  refine MV.of (cc := cX2_forgetFrom) (maxL := 4) (ret := none) (own := RX2) (by decide) rfl rfl (Nat.le_of_ble_eq_true rfl) ?_
  intro u1 h p e s m args below meth c A C0 H locs ls hP hD hS hl
  obtain ⟨hx, hb, hml, hr, hown, hts, hlocks, hA, hK, hN⟩ := id C0
  have hl : lv_has ls 4 [(0, .ref (a2 0)), (1, .int x1)] := hl
  unfold f_X2_forgetFrom at h
  refine lv_aload_n hx hb dX2_forgetFrom_0 rfl (lv_at hl 0 rfl) ?_
  refine va_get (D := D) (ci := 2) (v := .int (y 10 0)) (C := RX2) (T := TX2) (N := 14) hx hb hts in_X2_forgetFrom_X2 hown hK hP 0 rfl rfl 10 (by decide) (hts (.fieldLink RX2 48 "TermLoom$TypeTable" "count" "I") (by decide +kernel)) (fun _ h9 => h9) rfl dX2_forgetFrom_1 ?_
  refine lv_sipush (v := 8000) hx hb dX2_forgetFrom_4 rfl ?_
  refine va_mmin hx hb (by rw [hml]; exact hl.1.symm) hown (hts (.methodLink RX2 90 Lib.Math.min.name) (by decide +kernel)) (hts (.static Lib.Math.min.name) (by decide +kernel)) (hts (.initialized "java/lang/Math") (by decide +kernel)) (hts (.code Lib.Math.min.name Lib.Math.min.code 2 (some .int)) (by decide +kernel)) (Nat.le_of_ble_eq_true rfl) (Nat.le_of_ble_eq_true rfl) (Nat.zero_le _) (Nat.zero_le _) dX2_forgetFrom_7 ?_
  refine lv_iconst (v := 1) hx hb dX2_forgetFrom_10 rfl ?_
  refine lv_isub hx hb dX2_forgetFrom_11 ?_
  refine lv_istore_n (lv' := [(2, .int ((if 8000 < (y 10 0) then 8000 else (y 10 0)) - 1)), (0, .ref (a2 0)), (1, .int x1)]) hx hb dX2_forgetFrom_12 rfl hl (by decide) rfl (fun ls hl => ?_)
  refine lv_iload_n hx hb dX2_forgetFrom_13 rfl (lv_at hl 0 rfl) ?_
  refine lv_istore_n (lv' := [(3, .int ((if 8000 < (y 10 0) then 8000 else (y 10 0)) - 1)), (2, .int ((if 8000 < (y 10 0) then 8000 else (y 10 0)) - 1)), (0, .ref (a2 0)), (1, .int x1)]) hx hb dX2_forgetFrom_14 rfl hl (by decide) rfl (fun ls hl => ?_)
  exact k_X2_forgetFrom_15 C0 N N y x1 ((if 8000 < (y 10 0) then 8000 else (y 10 0)) - 1) _ _ _ hP hD hS (lv_sub hl [2, 3, 0] rfl) h

theorem in_X2_beginImages_X2 : ∀ w ∈ u_ws RX2 TX2 14, w ∈ wsX2_beginImages := by decide +kernel
def f_X2_beginImages (N : Nat) (y : St) : Option (St) := bnd (up2 y 11 0 ((y 11 0) + 1)) (fun y1 => some y1)
set_option maxHeartbeats 4000000 in
set_option maxRecDepth 100000 in
theorem c_X2_beginImages (l : Launch) (D : va_G) (cI cZ : ClassId) (a2 : Nat → Nat) (N : Nat) (y : St) : MV l yX2_beginImages wsX2_beginImages ({ frames := 0, cells := 0, slots := 0, locals := 0 } : Room) D cI cZ (wX2 a2 cI cZ) [.ref (a2 0)] y (f_X2_beginImages N y) := by
  refine MV.of (cc := cX2_beginImages) (maxL := 1) (ret := none) (own := RX2) (by decide) rfl rfl (Nat.le_of_ble_eq_true rfl) ?_
  intro u1 h p e s m args below meth c A C0 H locs ls hP hD hS hl
  obtain ⟨hx, hb, hml, hr, hown, hts, hlocks, hA, hK, hN⟩ := id C0
  have hl : lv_has ls 1 [(0, .ref (a2 0))] := hl
  unfold f_X2_beginImages at h
  refine lv_aload_n hx hb dX2_beginImages_0 rfl (lv_at hl 0 rfl) ?_
  refine lv_dup hx hb dX2_beginImages_1 rfl ?_
  refine va_get (D := D) (ci := 2) (v := .int (y 11 0)) (C := RX2) (T := TX2) (N := 14) hx hb hts in_X2_beginImages_X2 hown hK hP 0 rfl rfl 11 (by decide) (hts (.fieldLink RX2 93 "TermLoom$TypeTable" "stamp" "I") (by decide +kernel)) (fun _ h9 => h9) rfl dX2_beginImages_2 ?_
  refine lv_iconst (v := 1) hx hb dX2_beginImages_5 rfl ?_
  refine lv_iadd hx hb dX2_beginImages_6 ?_
  refine va_put (D := D) (ci := 2) (v := .int ((y 11 0) + 1)) (ty := .int) (C := RX2) (T := TX2) (N := 14) hx hb hts in_X2_beginImages_X2 tyX2 tyX2_ok nmX2 hown hK hP hD hS 0 rfl rfl 11 (by decide) (hts (.fieldLink RX2 93 "TermLoom$TypeTable" "stamp" "I") (by decide +kernel)) (fun _ h9 => h9) rfl (by decide +kernel) rfl rfl (Nat.le_of_ble_eq_true rfl) dX2_beginImages_7 (fun H locs hP hD hS => ?_)
  obtain ⟨y1, ey1, h⟩ := bn h
  have hP : va_P D vwCl (wX2 a2 cI cZ y1) H := by rw [ey1]; exact hP
  have hD : va_D A (wX2 a2 cI cZ y1) := by rw [ey1]; exact hD
  obtain rfl := so1 h
  exact ret_v C0 hP hD hS dX2_beginImages_10

theorem in_X2_setImage_X2 : ∀ w ∈ u_ws RX2 TX2 14, w ∈ wsX2_setImage := by decide +kernel
def f_X2_setImage_28 (N : Nat) (y : St) : Option (St) := some y
def f_X2_setImage (N : Nat) (y : St) (x1 x2 : Int32) : Option (St) := if x1 < 0 then f_X2_setImage_28 N y else if 8000 ≤ x1 then f_X2_setImage_28 N y else if x1 < 0 ∨ 8000 ≤ (x1).toNatClampNeg then none else bnd (up2 y 7 (x1).toNatClampNeg x2) (fun y3 => if x1 < 0 ∨ 8000 ≤ (x1).toNatClampNeg then none else bnd (up2 y3 8 (x1).toNatClampNeg (y3 11 0)) (fun y4 => f_X2_setImage_28 N y4))
abbrev KP_X2_setImage_28 (p : Program) (l : Launch) (e : Env) (s : State) (m : MethodId) (args : Array Value) (below : List Frame) (meth : Method) (c : Code) (D : va_G) (cI cZ : ClassId) (a2 : Nat → Nat) (A : Nat → Prop) (u1 : St) (K : St → Option (St)) : Prop := ∀ (y : St) (H : Heap) (locs : List Loc) (ls : Array Slot), va_P D vwCl (wX2 a2 cI cZ y) H → va_D A (wX2 a2 cI cZ y) → va_S A s.heap H locs → lv_has ls 3 [] → K y = some u1 → W p l e ({ frames := 0, cells := 0, slots := 0, locals := 0 } : Room) s m args below meth c H locs 0 0 (QV below args s D cI cZ (wX2 a2 cI cZ) A u1) (F0 m 28 ls [])
set_option maxHeartbeats 4000000 in
set_option maxRecDepth 100000 in
theorem k_X2_setImage_28 {p : Program} {l : Launch} {e : Env} {s : State} {m : MethodId} {args : Array Value} {below : List Frame} {meth : Method} {c : Code} {D : va_G} {cI cZ : ClassId} {a2 : Nat → Nat} {A : Nat → Prop} {u1 : St} (C0 : mB p s m args meth c D cI cZ A cX2_setImage 3 none wsX2_setImage RX2) (N : Nat) : KP_X2_setImage_28 p l e s m args below meth c D cI cZ a2 A u1 (f_X2_setImage_28 N) := by
  obtain ⟨hx, hb, hml, hr, hown, hts, hlocks, hA, hK, hN⟩ := id C0
  intro y H locs ls hP hD hS hl h
  unfold f_X2_setImage_28 at h
  obtain rfl := so1 h
  exact ret_v C0 hP hD hS dX2_setImage_28
set_option maxHeartbeats 4000000 in
set_option maxRecDepth 100000 in
theorem c_X2_setImage (l : Launch) (D : va_G) (cI cZ : ClassId) (a2 : Nat → Nat) (N : Nat) (y : St) (x1 x2 : Int32) : MV l yX2_setImage wsX2_setImage ({ frames := 0, cells := 0, slots := 0, locals := 0 } : Room) D cI cZ (wX2 a2 cI cZ) [.ref (a2 0), .int x1, .int x2] y (f_X2_setImage N y x1 x2) := by
  refine MV.of (cc := cX2_setImage) (maxL := 3) (ret := none) (own := RX2) (by decide) rfl rfl (Nat.le_of_ble_eq_true rfl) ?_
  intro u1 h p e s m args below meth c A C0 H locs ls hP hD hS hl
  obtain ⟨hx, hb, hml, hr, hown, hts, hlocks, hA, hK, hN⟩ := id C0
  have hl : lv_has ls 3 [(0, .ref (a2 0)), (1, .int x1), (2, .int x2)] := hl
  unfold f_X2_setImage at h
  refine lv_iload_n hx hb dX2_setImage_0 rfl (lv_at hl 1 rfl) ?_
  refine lv_if_lt (tgt := 28) hx hb dX2_setImage_1 (by decide) (fun hc1 => ?_) (fun hc1 => ?_)
  · rw [if_pos hc1] at h
    exact k_X2_setImage_28 C0 N y _ _ _ hP hD hS (lv_sub hl [] rfl) h
  · rw [if_neg hc1] at h
    refine lv_iload_n hx hb dX2_setImage_4 rfl (lv_at hl 1 rfl) ?_
    refine lv_sipush (v := 8000) hx hb dX2_setImage_5 rfl ?_
    refine lv_icmp_ge (tgt := 28) hx hb dX2_setImage_8 (by decide) (fun hc2 => ?_) (fun hc2 => ?_)
    · rw [if_pos hc2] at h
      exact k_X2_setImage_28 C0 N y _ _ _ hP hD hS (lv_sub hl [] rfl) h
    · rw [if_neg hc2] at h
      refine lv_aload_n hx hb dX2_setImage_11 rfl (lv_at hl 0 rfl) ?_
      refine va_get (D := D) (ci := 2) (v := .ref (a2 8)) (C := RX2) (T := TX2) (N := 14) hx hb hts in_X2_setImage_X2 hown hK hP 0 rfl rfl 7 (by decide) (hts (.fieldLink RX2 33 "TermLoom$TypeTable" "images" "[I") (by decide +kernel)) (fun _ h9 => h9) rfl dX2_setImage_12 ?_
      refine lv_iload_n hx hb dX2_setImage_15 rfl (lv_at hl 1 rfl) ?_
      refine lv_iload_n hx hb dX2_setImage_16 rfl (lv_at hl 2 rfl) ?_
      by_cases hi : x1 < 0 ∨ 8000 ≤ (x1).toNatClampNeg
      · rw [if_pos hi] at h; exact no h
      rw [if_neg hi] at h
      refine va_iast (f := (y 7)) hx hb hK hP hD hS 8 0 rfl rfl (i := x1) (x := x2) hi dX2_setImage_17 (fun H locs hP hD hS => ?_)
      obtain ⟨y3, ey3, h⟩ := bn h
      have hP : va_P D vwCl (wX2 a2 cI cZ y3) H := by rw [ey3]; exact hP
      have hD : va_D A (wX2 a2 cI cZ y3) := by rw [ey3]; exact hD
      refine lv_aload_n hx hb dX2_setImage_18 rfl (lv_at hl 0 rfl) ?_
      refine va_get (D := D) (ci := 2) (v := .ref (a2 9)) (C := RX2) (T := TX2) (N := 14) hx hb hts in_X2_setImage_X2 hown hK hP 0 rfl rfl 8 (by decide) (hts (.fieldLink RX2 36 "TermLoom$TypeTable" "stamps" "[I") (by decide +kernel)) (fun _ h9 => h9) rfl dX2_setImage_19 ?_
      refine lv_iload_n hx hb dX2_setImage_22 rfl (lv_at hl 1 rfl) ?_
      refine lv_aload_n hx hb dX2_setImage_23 rfl (lv_at hl 0 rfl) ?_
      refine va_get (D := D) (ci := 2) (v := .int (y3 11 0)) (C := RX2) (T := TX2) (N := 14) hx hb hts in_X2_setImage_X2 hown hK hP 0 rfl rfl 11 (by decide) (hts (.fieldLink RX2 93 "TermLoom$TypeTable" "stamp" "I") (by decide +kernel)) (fun _ h9 => h9) rfl dX2_setImage_24 ?_
      by_cases hi : x1 < 0 ∨ 8000 ≤ (x1).toNatClampNeg
      · rw [if_pos hi] at h; exact no h
      rw [if_neg hi] at h
      refine va_iast (f := (y3 8)) hx hb hK hP hD hS 9 0 rfl rfl (i := x1) (x := (y3 11 0)) hi dX2_setImage_27 (fun H locs hP hD hS => ?_)
      obtain ⟨y4, ey4, h⟩ := bn h
      have hP : va_P D vwCl (wX2 a2 cI cZ y4) H := by rw [ey4]; exact hP
      have hD : va_D A (wX2 a2 cI cZ y4) := by rw [ey4]; exact hD
      exact k_X2_setImage_28 C0 N y4 _ _ _ hP hD hS (lv_sub hl [] rfl) h

theorem in_X2_hasImage_X2 : ∀ w ∈ u_ws RX2 TX2 14, w ∈ wsX2_hasImage := by decide +kernel
def f_X2_hasImage_20 (N : Nat) (y : St) (s0 : Int32) : Option (Int32 × St) := if s0 = 0 ∨ s0 = 1 then some (s0, y) else none
def f_X2_hasImage (N : Nat) (y : St) (x1 : Int32) : Option (Int32 × St) := (f_X4_read N 8000 (y 8) x1).bind (fun q1 => if q1.1 = (y 11 0) then f_X2_hasImage_20 N y 1 else f_X2_hasImage_20 N y 0)
abbrev KP_X2_hasImage_20 (p : Program) (l : Launch) (e : Env) (s : State) (m : MethodId) (args : Array Value) (below : List Frame) (meth : Method) (c : Code) (D : va_G) (cI cZ : ClassId) (a2 : Nat → Nat) (A : Nat → Prop) (r : Int32) (u1 : St) (K : St → Int32 → Option (Int32 × St)) : Prop := ∀ (y : St) (s0 : Int32) (H : Heap) (locs : List Loc) (ls : Array Slot), va_P D vwCl (wX2 a2 cI cZ y) H → va_D A (wX2 a2 cI cZ y) → va_S A s.heap H locs → lv_has ls 2 [] → K y s0 = some (r, u1) → W p l e ({ frames := 1, cells := 0, slots := 0, locals := 21 } : Room) s m args below meth c H locs 0 0 (QI below args s D cI cZ (wX2 a2 cI cZ) A r u1) (F0 m 20 ls [.int s0])
set_option maxHeartbeats 4000000 in
set_option maxRecDepth 100000 in
theorem k_X2_hasImage_20 {p : Program} {l : Launch} {e : Env} {s : State} {m : MethodId} {args : Array Value} {below : List Frame} {meth : Method} {c : Code} {D : va_G} {cI cZ : ClassId} {a2 : Nat → Nat} {A : Nat → Prop} {r : Int32} {u1 : St} (C0 : mB p s m args meth c D cI cZ A cX2_hasImage 2 (some .boolean) wsX2_hasImage RX2) (N : Nat) : KP_X2_hasImage_20 p l e s m args below meth c D cI cZ a2 A r u1 (f_X2_hasImage_20 N) := by
  obtain ⟨hx, hb, hml, hr, hown, hts, hlocks, hA, hK, hN⟩ := id C0
  intro y s0 H locs ls hP hD hS hl h
  unfold f_X2_hasImage_20 at h
  by_cases hz : s0 = 0 ∨ s0 = 1
  · rw [if_pos hz] at h
    obtain ⟨rfl, rfl⟩ := so h
    exact ret_z C0 hz hP hD hS dX2_hasImage_20
  · rw [if_neg hz] at h; exact no h
set_option maxHeartbeats 4000000 in
set_option maxRecDepth 100000 in
theorem c_X2_hasImage (l : Launch) (D : va_G) (cI cZ : ClassId) (a2 : Nat → Nat) (N : Nat) (y : St) (x1 : Int32) : MI l yX2_hasImage wsX2_hasImage ({ frames := 1, cells := 0, slots := 0, locals := 21 } : Room) D cI cZ (wX2 a2 cI cZ) [.ref (a2 0), .int x1] y (f_X2_hasImage N y x1) := by
  refine MI.of (cc := cX2_hasImage) (maxL := 2) (ret := (some .boolean)) (own := RX2) (by decide) rfl rfl (Nat.le_of_ble_eq_true rfl) ?_
  intro r u1 h p e s m args below meth c A C0 H locs ls hP hD hS hl
  obtain ⟨hx, hb, hml, hr, hown, hts, hlocks, hA, hK, hN⟩ := id C0
  have hl : lv_has ls 2 [(0, .ref (a2 0)), (1, .int x1)] := hl
  unfold f_X2_hasImage at h
  refine lv_aload_n hx hb dX2_hasImage_0 rfl (lv_at hl 0 rfl) ?_
  refine va_get (D := D) (ci := 2) (v := .ref (a2 9)) (C := RX2) (T := TX2) (N := 14) hx hb hts in_X2_hasImage_X2 hown hK hP 0 rfl rfl 8 (by decide) (hts (.fieldLink RX2 36 "TermLoom$TypeTable" "stamps" "[I") (by decide +kernel)) (fun _ h9 => h9) rfl dX2_hasImage_1 ?_
  refine lv_iload_n hx hb dX2_hasImage_4 rfl (lv_at hl 1 rfl) ?_
  obtain ⟨q1, hq1, h⟩ := ob h
  refine mc_i (ws' := wX2 a2 cI cZ y) (wr := ((wX2 a2 cI cZ y).eraseIdx 9)) [9] [0, 1, 2, 3, 4, 5, 6, 7, 8, 10] [0, 1, 2, 3, 4, 5, 6, 7, 8, 10, 9] (va_runSN (As := [.ref (a2 9), .int x1]) (rest := []) ⟨hx, hb, hml, hown, hts⟩ (c_X4_read l D cI cZ (a2 9) 8000 (y 8) N x1 q1.1 q1.2 hq1 H.size) ⟨va_cnB 2 hts gX2_hasImage_X4_read_n52 rfl rfl rfl (nw_X2_52 hN) (hts (.initialized RX4) (by decide +kernel)) (by decide +kernel) ⟨Nat.le_of_ble_eq_true rfl, Nat.le_of_ble_eq_true rfl⟩, hts (.static yX4_read) (by decide +kernel), trivial⟩ (pS [9] hP hD hK hN rfl rfl) rfl rfl hl.1 rfl (lv_room (Nat.le_of_ble_eq_true rfl)) dX2_hasImage_5 ⟨Nat.le_of_ble_eq_true rfl, Nat.le_of_ble_eq_true rfl⟩) hP hD hS hA rfl rfl rfl (by decide) rfl rfl (fun H locs hP hD hS => ?_)
  refine lv_aload_n hx hb dX2_hasImage_8 rfl (lv_at hl 0 rfl) ?_
  refine va_get (D := D) (ci := 2) (v := .int (y 11 0)) (C := RX2) (T := TX2) (N := 14) hx hb hts in_X2_hasImage_X2 hown hK hP 0 rfl rfl 11 (by decide) (hts (.fieldLink RX2 93 "TermLoom$TypeTable" "stamp" "I") (by decide +kernel)) (fun _ h9 => h9) rfl dX2_hasImage_9 ?_
  refine lv_icmp_ne (tgt := 19) hx hb dX2_hasImage_12 (by decide) (fun hc2 => ?_) (fun hc2 => ?_)
  · rw [if_neg hc2] at h
    refine lv_iconst (v := 0) hx hb dX2_hasImage_19 rfl ?_
    exact k_X2_hasImage_20 C0 N y 0 _ _ _ hP hD hS (lv_sub hl [] rfl) h
  · rw [if_pos hc2] at h
    refine lv_iconst (v := 1) hx hb dX2_hasImage_15 rfl ?_
    refine lv_goto (tgt := 20) hx hb dX2_hasImage_16 (by decide) ?_
    exact k_X2_hasImage_20 C0 N y 1 _ _ _ hP hD hS (lv_sub hl [] rfl) h

theorem in_X2_fitsWithin_X2 : ∀ w ∈ u_ws RX2 TX2 14, w ∈ wsX2_fitsWithin := by decide +kernel
def f_X2_fitsWithin_20 (N : Nat) (F : St → Int32 → Int32 → Int32 → Option (Int32 × St)) (y : St) (s0 : Int32) : Option (Int32 × St) := if s0 = 0 ∨ s0 = 1 then some (s0, y) else none
def f_X2_fitsWithin_10 (N : Nat) (F : St → Int32 → Int32 → Int32 → Option (Int32 × St)) (y : St) (x1 x2 : Int32) : Option (Int32 × St) := if x1 = x2 then f_X2_fitsWithin_20 N F y 1 else f_X2_fitsWithin_20 N F y 0
def f_X2_fitsWithin_132 (N : Nat) (F : St → Int32 → Int32 → Int32 → Option (Int32 × St)) (y : St) (x4 : Int32) : Option (Int32 × St) := if x4 = 0 ∨ x4 = 1 then some (x4, y) else none
def f_X2_fitsWithin_119 (N : Nat) (F : St → Int32 → Int32 → Int32 → Option (Int32 × St)) (y : St) (x1 x2 s0 : Int32) : Option (Int32 × St) := if s0 = 0 then f_X2_fitsWithin_132 N F y s0 else (f_X2_setImage N y x1 x2).bind (fun q2 => f_X2_fitsWithin_132 N F q2 s0)
def f_X2_fitsWithin_114 (N : Nat) (F : St → Int32 → Int32 → Int32 → Option (Int32 × St)) (y : St) (x1 x2 : Int32) : Option (Int32 × St) := f_X2_fitsWithin_119 N F y x1 x2 1
def f_X2_fitsWithin_118 (N : Nat) (F : St → Int32 → Int32 → Int32 → Option (Int32 × St)) (y : St) (x1 x2 : Int32) : Option (Int32 × St) := f_X2_fitsWithin_119 N F y x1 x2 0
def f_X2_fitsWithin_52 (N : Nat) (F : St → Int32 → Int32 → Int32 → Option (Int32 × St)) (y : St) (s0 : Int32) : Option (Int32 × St) := if s0 = 0 ∨ s0 = 1 then some (s0, y) else none
def f_X2_fitsWithin_step (N : Nat) (F : St → Int32 → Int32 → Int32 → Option (Int32 × St)) (y : St) (x1 x2 x3 : Int32) : Option (Int32 × St) := if x1 = (-1) then f_X2_fitsWithin_10 N F y x1 x2 else if x2 = (-1) then f_X2_fitsWithin_10 N F y x1 x2 else if 0 < x3 then (f_X2_hasImage N y x1).bind (fun q4 => if q4.1 = 0 then (f_X2_head N q4.2 x1).bind (fun q6 => if q6.1 < 0 then f_X2_fitsWithin_114 N F q6.2 x1 x2 else (f_X2_head N q6.2 x1).bind (fun q8 => (f_X2_head N q8.2 x2).bind (fun q9 => if q8.1 = q9.1 then (f_X2_first N q9.2 x1).bind (fun q11 => (f_X2_first N q11.2 x2).bind (fun q12 => (F q12.2 q11.1 q12.1 (x3 - 1)).bind (fun q13 => if q13.1 = 0 then f_X2_fitsWithin_118 N F q13.2 x1 x2 else (f_X2_second N q13.2 x1).bind (fun q15 => (f_X2_second N q15.2 x2).bind (fun q16 => (F q16.2 q15.1 q16.1 (x3 - 1)).bind (fun q17 => if q17.1 = 0 then f_X2_fitsWithin_118 N F q17.2 x1 x2 else f_X2_fitsWithin_114 N F q17.2 x1 x2)))))) else f_X2_fitsWithin_118 N F q9.2 x1 x2))) else (f_X4_read N 8000 (q4.2 7) x1).bind (fun q19 => if q19.1 = x2 then f_X2_fitsWithin_52 N F q4.2 1 else f_X2_fitsWithin_52 N F q4.2 0)) else some (0, y)
abbrev KP_X2_fitsWithin_20 (p : Program) (l : Launch) (e : Env) (s : State) (m : MethodId) (args : Array Value) (below : List Frame) (meth : Method) (c : Code) (D : va_G) (cI cZ : ClassId) (a2 : Nat → Nat) (d : Nat) (A : Nat → Prop) (r : Int32) (u1 : St) (K : St → Int32 → Option (Int32 × St)) : Prop := ∀ (y : St) (s0 : Int32) (H : Heap) (locs : List Loc) (ls : Array Slot), va_P D vwCl (wX2 a2 cI cZ y) H → va_D A (wX2 a2 cI cZ y) → va_S A s.heap H locs → lv_has ls 5 [] → K y s0 = some (r, u1) → W p l e ({ frames := 5 * (d + 1) + 1, cells := 0, slots := 0, locals := 200 * (d + 1) } : Room) s m args below meth c H locs 0 0 (QI below args s D cI cZ (wX2 a2 cI cZ) A r u1) (F0 m 20 ls [.int s0])
abbrev KP_X2_fitsWithin_10 (p : Program) (l : Launch) (e : Env) (s : State) (m : MethodId) (args : Array Value) (below : List Frame) (meth : Method) (c : Code) (D : va_G) (cI cZ : ClassId) (a2 : Nat → Nat) (d : Nat) (A : Nat → Prop) (r : Int32) (u1 : St) (K : St → Int32 → Int32 → Option (Int32 × St)) : Prop := ∀ (y : St) (x1 x2 : Int32) (H : Heap) (locs : List Loc) (ls : Array Slot), va_P D vwCl (wX2 a2 cI cZ y) H → va_D A (wX2 a2 cI cZ y) → va_S A s.heap H locs → lv_has ls 5 [(1, .int x1), (2, .int x2)] → K y x1 x2 = some (r, u1) → W p l e ({ frames := 5 * (d + 1) + 1, cells := 0, slots := 0, locals := 200 * (d + 1) } : Room) s m args below meth c H locs 0 0 (QI below args s D cI cZ (wX2 a2 cI cZ) A r u1) (F0 m 10 ls [])
abbrev KP_X2_fitsWithin_132 (p : Program) (l : Launch) (e : Env) (s : State) (m : MethodId) (args : Array Value) (below : List Frame) (meth : Method) (c : Code) (D : va_G) (cI cZ : ClassId) (a2 : Nat → Nat) (d : Nat) (A : Nat → Prop) (r : Int32) (u1 : St) (K : St → Int32 → Option (Int32 × St)) : Prop := ∀ (y : St) (x4 : Int32) (H : Heap) (locs : List Loc) (ls : Array Slot), va_P D vwCl (wX2 a2 cI cZ y) H → va_D A (wX2 a2 cI cZ y) → va_S A s.heap H locs → lv_has ls 5 [(4, .int x4)] → K y x4 = some (r, u1) → W p l e ({ frames := 5 * (d + 1) + 1, cells := 0, slots := 0, locals := 200 * (d + 1) } : Room) s m args below meth c H locs 0 0 (QI below args s D cI cZ (wX2 a2 cI cZ) A r u1) (F0 m 132 ls [])
abbrev KP_X2_fitsWithin_119 (p : Program) (l : Launch) (e : Env) (s : State) (m : MethodId) (args : Array Value) (below : List Frame) (meth : Method) (c : Code) (D : va_G) (cI cZ : ClassId) (a2 : Nat → Nat) (d : Nat) (A : Nat → Prop) (r : Int32) (u1 : St) (K : St → Int32 → Int32 → Int32 → Option (Int32 × St)) : Prop := ∀ (y : St) (x1 x2 s0 : Int32) (H : Heap) (locs : List Loc) (ls : Array Slot), va_P D vwCl (wX2 a2 cI cZ y) H → va_D A (wX2 a2 cI cZ y) → va_S A s.heap H locs → lv_has ls 5 [(0, .ref (a2 0)), (1, .int x1), (2, .int x2)] → K y x1 x2 s0 = some (r, u1) → W p l e ({ frames := 5 * (d + 1) + 1, cells := 0, slots := 0, locals := 200 * (d + 1) } : Room) s m args below meth c H locs 0 0 (QI below args s D cI cZ (wX2 a2 cI cZ) A r u1) (F0 m 119 ls [.int s0])
abbrev KP_X2_fitsWithin_114 (p : Program) (l : Launch) (e : Env) (s : State) (m : MethodId) (args : Array Value) (below : List Frame) (meth : Method) (c : Code) (D : va_G) (cI cZ : ClassId) (a2 : Nat → Nat) (d : Nat) (A : Nat → Prop) (r : Int32) (u1 : St) (K : St → Int32 → Int32 → Option (Int32 × St)) : Prop := ∀ (y : St) (x1 x2 : Int32) (H : Heap) (locs : List Loc) (ls : Array Slot), va_P D vwCl (wX2 a2 cI cZ y) H → va_D A (wX2 a2 cI cZ y) → va_S A s.heap H locs → lv_has ls 5 [(0, .ref (a2 0)), (1, .int x1), (2, .int x2)] → K y x1 x2 = some (r, u1) → W p l e ({ frames := 5 * (d + 1) + 1, cells := 0, slots := 0, locals := 200 * (d + 1) } : Room) s m args below meth c H locs 0 0 (QI below args s D cI cZ (wX2 a2 cI cZ) A r u1) (F0 m 114 ls [])
abbrev KP_X2_fitsWithin_118 (p : Program) (l : Launch) (e : Env) (s : State) (m : MethodId) (args : Array Value) (below : List Frame) (meth : Method) (c : Code) (D : va_G) (cI cZ : ClassId) (a2 : Nat → Nat) (d : Nat) (A : Nat → Prop) (r : Int32) (u1 : St) (K : St → Int32 → Int32 → Option (Int32 × St)) : Prop := ∀ (y : St) (x1 x2 : Int32) (H : Heap) (locs : List Loc) (ls : Array Slot), va_P D vwCl (wX2 a2 cI cZ y) H → va_D A (wX2 a2 cI cZ y) → va_S A s.heap H locs → lv_has ls 5 [(0, .ref (a2 0)), (1, .int x1), (2, .int x2)] → K y x1 x2 = some (r, u1) → W p l e ({ frames := 5 * (d + 1) + 1, cells := 0, slots := 0, locals := 200 * (d + 1) } : Room) s m args below meth c H locs 0 0 (QI below args s D cI cZ (wX2 a2 cI cZ) A r u1) (F0 m 118 ls [])
abbrev KP_X2_fitsWithin_52 (p : Program) (l : Launch) (e : Env) (s : State) (m : MethodId) (args : Array Value) (below : List Frame) (meth : Method) (c : Code) (D : va_G) (cI cZ : ClassId) (a2 : Nat → Nat) (d : Nat) (A : Nat → Prop) (r : Int32) (u1 : St) (K : St → Int32 → Option (Int32 × St)) : Prop := ∀ (y : St) (s0 : Int32) (H : Heap) (locs : List Loc) (ls : Array Slot), va_P D vwCl (wX2 a2 cI cZ y) H → va_D A (wX2 a2 cI cZ y) → va_S A s.heap H locs → lv_has ls 5 [] → K y s0 = some (r, u1) → W p l e ({ frames := 5 * (d + 1) + 1, cells := 0, slots := 0, locals := 200 * (d + 1) } : Room) s m args below meth c H locs 0 0 (QI below args s D cI cZ (wX2 a2 cI cZ) A r u1) (F0 m 52 ls [.int s0])
set_option maxHeartbeats 4000000 in
set_option maxRecDepth 100000 in
theorem k_X2_fitsWithin_20 {p : Program} {l : Launch} {e : Env} {s : State} {m : MethodId} {args : Array Value} {below : List Frame} {meth : Method} {c : Code} {D : va_G} {cI cZ : ClassId} {a2 : Nat → Nat} {A : Nat → Prop} {r : Int32} {u1 : St} (C0 : mB p s m args meth c D cI cZ A cX2_fitsWithin 5 (some .boolean) wsX2_fitsWithin RX2) (N : Nat) (d : Nat) (F : St → Int32 → Int32 → Int32 → Option (Int32 × St)) (hF : ∀ (v : St) (z0 z1 z2 : Int32), MI l yX2_fitsWithin wsX2_fitsWithin ({ frames := 5 * d + 1, cells := 0, slots := 0, locals := 200 * d } : Room) D cI cZ (wX2 a2 cI cZ) [.ref (a2 0), .int z0, .int z1, .int z2] v (F v z0 z1 z2)) : KP_X2_fitsWithin_20 p l e s m args below meth c D cI cZ a2 d A r u1 (f_X2_fitsWithin_20 N F) := by
  obtain ⟨hx, hb, hml, hr, hown, hts, hlocks, hA, hK, hN⟩ := id C0
  intro y s0 H locs ls hP hD hS hl h
  unfold f_X2_fitsWithin_20 at h
  by_cases hz : s0 = 0 ∨ s0 = 1
  · rw [if_pos hz] at h
    obtain ⟨rfl, rfl⟩ := so h
    exact ret_z C0 hz hP hD hS dX2_fitsWithin_20
  · rw [if_neg hz] at h; exact no h
set_option maxHeartbeats 4000000 in
set_option maxRecDepth 100000 in
theorem k_X2_fitsWithin_10 {p : Program} {l : Launch} {e : Env} {s : State} {m : MethodId} {args : Array Value} {below : List Frame} {meth : Method} {c : Code} {D : va_G} {cI cZ : ClassId} {a2 : Nat → Nat} {A : Nat → Prop} {r : Int32} {u1 : St} (C0 : mB p s m args meth c D cI cZ A cX2_fitsWithin 5 (some .boolean) wsX2_fitsWithin RX2) (N : Nat) (d : Nat) (F : St → Int32 → Int32 → Int32 → Option (Int32 × St)) (hF : ∀ (v : St) (z0 z1 z2 : Int32), MI l yX2_fitsWithin wsX2_fitsWithin ({ frames := 5 * d + 1, cells := 0, slots := 0, locals := 200 * d } : Room) D cI cZ (wX2 a2 cI cZ) [.ref (a2 0), .int z0, .int z1, .int z2] v (F v z0 z1 z2)) : KP_X2_fitsWithin_10 p l e s m args below meth c D cI cZ a2 d A r u1 (f_X2_fitsWithin_10 N F) := by
  obtain ⟨hx, hb, hml, hr, hown, hts, hlocks, hA, hK, hN⟩ := id C0
  intro y x1 x2 H locs ls hP hD hS hl h
  unfold f_X2_fitsWithin_10 at h
  refine lv_iload_n hx hb dX2_fitsWithin_10 rfl (lv_at hl 0 rfl) ?_
  refine lv_iload_n hx hb dX2_fitsWithin_11 rfl (lv_at hl 1 rfl) ?_
  refine lv_icmp_ne (tgt := 19) hx hb dX2_fitsWithin_12 (by decide) (fun hc1 => ?_) (fun hc1 => ?_)
  · rw [if_neg hc1] at h
    refine lv_iconst (v := 0) hx hb dX2_fitsWithin_19 rfl ?_
    exact k_X2_fitsWithin_20 C0 N d F hF y 0 _ _ _ hP hD hS (lv_sub hl [] rfl) h
  · rw [if_pos hc1] at h
    refine lv_iconst (v := 1) hx hb dX2_fitsWithin_15 rfl ?_
    refine lv_goto (tgt := 20) hx hb dX2_fitsWithin_16 (by decide) ?_
    exact k_X2_fitsWithin_20 C0 N d F hF y 1 _ _ _ hP hD hS (lv_sub hl [] rfl) h
set_option maxHeartbeats 4000000 in
set_option maxRecDepth 100000 in
theorem k_X2_fitsWithin_132 {p : Program} {l : Launch} {e : Env} {s : State} {m : MethodId} {args : Array Value} {below : List Frame} {meth : Method} {c : Code} {D : va_G} {cI cZ : ClassId} {a2 : Nat → Nat} {A : Nat → Prop} {r : Int32} {u1 : St} (C0 : mB p s m args meth c D cI cZ A cX2_fitsWithin 5 (some .boolean) wsX2_fitsWithin RX2) (N : Nat) (d : Nat) (F : St → Int32 → Int32 → Int32 → Option (Int32 × St)) (hF : ∀ (v : St) (z0 z1 z2 : Int32), MI l yX2_fitsWithin wsX2_fitsWithin ({ frames := 5 * d + 1, cells := 0, slots := 0, locals := 200 * d } : Room) D cI cZ (wX2 a2 cI cZ) [.ref (a2 0), .int z0, .int z1, .int z2] v (F v z0 z1 z2)) : KP_X2_fitsWithin_132 p l e s m args below meth c D cI cZ a2 d A r u1 (f_X2_fitsWithin_132 N F) := by
  obtain ⟨hx, hb, hml, hr, hown, hts, hlocks, hA, hK, hN⟩ := id C0
  intro y x4 H locs ls hP hD hS hl h
  unfold f_X2_fitsWithin_132 at h
  refine lv_iload hx hb dX2_fitsWithin_132 (lv_at hl 0 rfl) ?_
  by_cases hz : x4 = 0 ∨ x4 = 1
  · rw [if_pos hz] at h
    obtain ⟨rfl, rfl⟩ := so h
    exact ret_z C0 hz hP hD hS dX2_fitsWithin_134
  · rw [if_neg hz] at h; exact no h
set_option maxHeartbeats 4000000 in
set_option maxRecDepth 100000 in
theorem k_X2_fitsWithin_119 {p : Program} {l : Launch} {e : Env} {s : State} {m : MethodId} {args : Array Value} {below : List Frame} {meth : Method} {c : Code} {D : va_G} {cI cZ : ClassId} {a2 : Nat → Nat} {A : Nat → Prop} {r : Int32} {u1 : St} (C0 : mB p s m args meth c D cI cZ A cX2_fitsWithin 5 (some .boolean) wsX2_fitsWithin RX2) (N : Nat) (d : Nat) (F : St → Int32 → Int32 → Int32 → Option (Int32 × St)) (hF : ∀ (v : St) (z0 z1 z2 : Int32), MI l yX2_fitsWithin wsX2_fitsWithin ({ frames := 5 * d + 1, cells := 0, slots := 0, locals := 200 * d } : Room) D cI cZ (wX2 a2 cI cZ) [.ref (a2 0), .int z0, .int z1, .int z2] v (F v z0 z1 z2)) : KP_X2_fitsWithin_119 p l e s m args below meth c D cI cZ a2 d A r u1 (f_X2_fitsWithin_119 N F) := by
  obtain ⟨hx, hb, hml, hr, hown, hts, hlocks, hA, hK, hN⟩ := id C0
  intro y x1 x2 s0 H locs ls hP hD hS hl h
  unfold f_X2_fitsWithin_119 at h
  refine lv_istore (lv' := [(4, .int s0), (0, .ref (a2 0)), (1, .int x1), (2, .int x2)]) hx hb dX2_fitsWithin_119 hl (by decide) rfl (fun ls hl => ?_)
  refine lv_iload hx hb dX2_fitsWithin_121 (lv_at hl 0 rfl) ?_
  refine lv_if_eq (tgt := 132) hx hb dX2_fitsWithin_123 (by decide) (fun hc1 => ?_) (fun hc1 => ?_)
  · rw [if_pos hc1] at h
    exact k_X2_fitsWithin_132 C0 N d F hF y s0 _ _ _ hP hD hS (lv_sub hl [0] rfl) h
  · rw [if_neg hc1] at h
    refine lv_aload_n hx hb dX2_fitsWithin_126 rfl (lv_at hl 1 rfl) ?_
    refine lv_iload_n hx hb dX2_fitsWithin_127 rfl (lv_at hl 2 rfl) ?_
    refine lv_iload_n hx hb dX2_fitsWithin_128 rfl (lv_at hl 3 rfl) ?_
    obtain ⟨q2, hq2, h⟩ := ob h
    refine mc_v (ws' := wX2 a2 cI cZ q2) (wr := ([] : va_W)) [0, 1, 2, 3, 4, 5, 6, 7, 8, 9, 10] [] [0, 1, 2, 3, 4, 5, 6, 7, 8, 9, 10] (va_runV (As := [.int x1, .int x2]) (rest := []) ⟨hx, hb, hml, hown, hts⟩ (c_X2_setImage l D cI cZ a2 N y x1 x2 q2 hq2 H.size) (cwV 2 hts gX2_fitsWithin_X2_setImage rfl rfl rfl (by decide +kernel) ⟨by first | exact Nat.le_of_ble_eq_true rfl | (try dsimp only) <;> omega, by first | exact Nat.le_of_ble_eq_true rfl | (try dsimp only) <;> omega⟩) (pV [0, 1, 2, 3, 4, 5, 6, 7, 8, 9, 10] hP hD hK hN rfl rfl rfl rfl) rfl rfl hl.1 rfl (lv_room (Nat.le_of_ble_eq_true rfl)) dX2_fitsWithin_129 ⟨Nat.le_of_ble_eq_true rfl, Nat.le_of_ble_eq_true rfl⟩) hP hD hS hA rfl rfl rfl (by decide) rfl rfl (fun H locs hP hD hS => ?_)
    exact k_X2_fitsWithin_132 C0 N d F hF q2 s0 _ _ _ hP hD hS (lv_sub hl [0] rfl) h
set_option maxHeartbeats 4000000 in
set_option maxRecDepth 100000 in
theorem k_X2_fitsWithin_114 {p : Program} {l : Launch} {e : Env} {s : State} {m : MethodId} {args : Array Value} {below : List Frame} {meth : Method} {c : Code} {D : va_G} {cI cZ : ClassId} {a2 : Nat → Nat} {A : Nat → Prop} {r : Int32} {u1 : St} (C0 : mB p s m args meth c D cI cZ A cX2_fitsWithin 5 (some .boolean) wsX2_fitsWithin RX2) (N : Nat) (d : Nat) (F : St → Int32 → Int32 → Int32 → Option (Int32 × St)) (hF : ∀ (v : St) (z0 z1 z2 : Int32), MI l yX2_fitsWithin wsX2_fitsWithin ({ frames := 5 * d + 1, cells := 0, slots := 0, locals := 200 * d } : Room) D cI cZ (wX2 a2 cI cZ) [.ref (a2 0), .int z0, .int z1, .int z2] v (F v z0 z1 z2)) : KP_X2_fitsWithin_114 p l e s m args below meth c D cI cZ a2 d A r u1 (f_X2_fitsWithin_114 N F) := by
  obtain ⟨hx, hb, hml, hr, hown, hts, hlocks, hA, hK, hN⟩ := id C0
  intro y x1 x2 H locs ls hP hD hS hl h
  unfold f_X2_fitsWithin_114 at h
  refine lv_iconst (v := 1) hx hb dX2_fitsWithin_114 rfl ?_
  refine lv_goto (tgt := 119) hx hb dX2_fitsWithin_115 (by decide) ?_
  exact k_X2_fitsWithin_119 C0 N d F hF y x1 x2 1 _ _ _ hP hD hS (lv_sub hl [0, 1, 2] rfl) h
set_option maxHeartbeats 4000000 in
set_option maxRecDepth 100000 in
theorem k_X2_fitsWithin_118 {p : Program} {l : Launch} {e : Env} {s : State} {m : MethodId} {args : Array Value} {below : List Frame} {meth : Method} {c : Code} {D : va_G} {cI cZ : ClassId} {a2 : Nat → Nat} {A : Nat → Prop} {r : Int32} {u1 : St} (C0 : mB p s m args meth c D cI cZ A cX2_fitsWithin 5 (some .boolean) wsX2_fitsWithin RX2) (N : Nat) (d : Nat) (F : St → Int32 → Int32 → Int32 → Option (Int32 × St)) (hF : ∀ (v : St) (z0 z1 z2 : Int32), MI l yX2_fitsWithin wsX2_fitsWithin ({ frames := 5 * d + 1, cells := 0, slots := 0, locals := 200 * d } : Room) D cI cZ (wX2 a2 cI cZ) [.ref (a2 0), .int z0, .int z1, .int z2] v (F v z0 z1 z2)) : KP_X2_fitsWithin_118 p l e s m args below meth c D cI cZ a2 d A r u1 (f_X2_fitsWithin_118 N F) := by
  obtain ⟨hx, hb, hml, hr, hown, hts, hlocks, hA, hK, hN⟩ := id C0
  intro y x1 x2 H locs ls hP hD hS hl h
  unfold f_X2_fitsWithin_118 at h
  refine lv_iconst (v := 0) hx hb dX2_fitsWithin_118 rfl ?_
  exact k_X2_fitsWithin_119 C0 N d F hF y x1 x2 0 _ _ _ hP hD hS (lv_sub hl [0, 1, 2] rfl) h
set_option maxHeartbeats 4000000 in
set_option maxRecDepth 100000 in
theorem k_X2_fitsWithin_52 {p : Program} {l : Launch} {e : Env} {s : State} {m : MethodId} {args : Array Value} {below : List Frame} {meth : Method} {c : Code} {D : va_G} {cI cZ : ClassId} {a2 : Nat → Nat} {A : Nat → Prop} {r : Int32} {u1 : St} (C0 : mB p s m args meth c D cI cZ A cX2_fitsWithin 5 (some .boolean) wsX2_fitsWithin RX2) (N : Nat) (d : Nat) (F : St → Int32 → Int32 → Int32 → Option (Int32 × St)) (hF : ∀ (v : St) (z0 z1 z2 : Int32), MI l yX2_fitsWithin wsX2_fitsWithin ({ frames := 5 * d + 1, cells := 0, slots := 0, locals := 200 * d } : Room) D cI cZ (wX2 a2 cI cZ) [.ref (a2 0), .int z0, .int z1, .int z2] v (F v z0 z1 z2)) : KP_X2_fitsWithin_52 p l e s m args below meth c D cI cZ a2 d A r u1 (f_X2_fitsWithin_52 N F) := by
  obtain ⟨hx, hb, hml, hr, hown, hts, hlocks, hA, hK, hN⟩ := id C0
  intro y s0 H locs ls hP hD hS hl h
  unfold f_X2_fitsWithin_52 at h
  by_cases hz : s0 = 0 ∨ s0 = 1
  · rw [if_pos hz] at h
    obtain ⟨rfl, rfl⟩ := so h
    exact ret_z C0 hz hP hD hS dX2_fitsWithin_52
  · rw [if_neg hz] at h; exact no h
set_option maxHeartbeats 4000000 in
set_option maxRecDepth 100000 in
theorem c_X2_fitsWithin_step (l : Launch) (D : va_G) (cI cZ : ClassId) (a2 : Nat → Nat) (N : Nat) (d : Nat) (F : St → Int32 → Int32 → Int32 → Option (Int32 × St)) (hF : ∀ (v : St) (z0 z1 z2 : Int32), MI l yX2_fitsWithin wsX2_fitsWithin ({ frames := 5 * d + 1, cells := 0, slots := 0, locals := 200 * d } : Room) D cI cZ (wX2 a2 cI cZ) [.ref (a2 0), .int z0, .int z1, .int z2] v (F v z0 z1 z2)) (y : St) (x1 x2 x3 : Int32) : MI l yX2_fitsWithin wsX2_fitsWithin ({ frames := 5 * (d + 1) + 1, cells := 0, slots := 0, locals := 200 * (d + 1) } : Room) D cI cZ (wX2 a2 cI cZ) [.ref (a2 0), .int x1, .int x2, .int x3] y (f_X2_fitsWithin_step N F y x1 x2 x3) := by
  refine MI.of (cc := cX2_fitsWithin) (maxL := 5) (ret := (some .boolean)) (own := RX2) (by decide) rfl rfl (Nat.le_of_ble_eq_true rfl) ?_
  intro r u1 h p e s m args below meth c A C0 H locs ls hP hD hS hl
  obtain ⟨hx, hb, hml, hr, hown, hts, hlocks, hA, hK, hN⟩ := id C0
  have hl : lv_has ls 5 [(0, .ref (a2 0)), (1, .int x1), (2, .int x2), (3, .int x3)] := hl
  unfold f_X2_fitsWithin_step at h
  refine lv_iload_n hx hb dX2_fitsWithin_0 rfl (lv_at hl 1 rfl) ?_
  refine lv_iconst (v := (-1)) hx hb dX2_fitsWithin_1 rfl ?_
  refine lv_icmp_eq (tgt := 10) hx hb dX2_fitsWithin_2 (by decide) (fun hc1 => ?_) (fun hc1 => ?_)
  · rw [if_pos hc1] at h
    exact k_X2_fitsWithin_10 C0 N d F hF y x1 x2 _ _ _ hP hD hS (lv_sub hl [1, 2] rfl) h
  · rw [if_neg hc1] at h
    refine lv_iload_n hx hb dX2_fitsWithin_5 rfl (lv_at hl 2 rfl) ?_
    refine lv_iconst (v := (-1)) hx hb dX2_fitsWithin_6 rfl ?_
    refine lv_icmp_ne (tgt := 21) hx hb dX2_fitsWithin_7 (by decide) (fun hc2 => ?_) (fun hc2 => ?_)
    · rw [if_neg hc2] at h
      refine lv_iload_n hx hb dX2_fitsWithin_21 rfl (lv_at hl 3 rfl) ?_
      refine lv_if_gt (tgt := 27) hx hb dX2_fitsWithin_22 (by decide) (fun hc3 => ?_) (fun hc3 => ?_)
      · rw [if_pos hc3] at h
        refine lv_aload_n hx hb dX2_fitsWithin_27 rfl (lv_at hl 0 rfl) ?_
        refine lv_iload_n hx hb dX2_fitsWithin_28 rfl (lv_at hl 1 rfl) ?_
        obtain ⟨q4, hq4, h⟩ := ob h
        refine mc_i (ws' := wX2 a2 cI cZ q4.2) (wr := ([] : va_W)) [0, 1, 2, 3, 4, 5, 6, 7, 8, 9, 10] [] [0, 1, 2, 3, 4, 5, 6, 7, 8, 9, 10] (va_runV (As := [.int x1]) (rest := []) ⟨hx, hb, hml, hown, hts⟩ (c_X2_hasImage l D cI cZ a2 N y x1 q4.1 q4.2 hq4 H.size) (cwV 1 hts gX2_fitsWithin_X2_hasImage rfl rfl rfl (by decide +kernel) ⟨by first | exact Nat.le_of_ble_eq_true rfl | (try dsimp only) <;> omega, by first | exact Nat.le_of_ble_eq_true rfl | (try dsimp only) <;> omega⟩) (pV [0, 1, 2, 3, 4, 5, 6, 7, 8, 9, 10] hP hD hK hN rfl rfl rfl rfl) rfl rfl hl.1 rfl (lv_room (Nat.le_of_ble_eq_true rfl)) dX2_fitsWithin_29 ⟨Nat.le_of_ble_eq_true rfl, Nat.le_of_ble_eq_true rfl⟩) hP hD hS hA rfl rfl rfl (by decide) rfl rfl (fun H locs hP hD hS => ?_)
        refine lv_if_eq (tgt := 53) hx hb dX2_fitsWithin_32 (by decide) (fun hc5 => ?_) (fun hc5 => ?_)
        · rw [if_pos hc5] at h
          refine lv_aload_n hx hb dX2_fitsWithin_53 rfl (lv_at hl 0 rfl) ?_
          refine lv_iload_n hx hb dX2_fitsWithin_54 rfl (lv_at hl 1 rfl) ?_
          obtain ⟨q6, hq6, h⟩ := ob h
          refine mc_i (ws' := wX2 a2 cI cZ q6.2) (wr := ([] : va_W)) [0, 1, 2, 3, 4, 5, 6, 7, 8, 9, 10] [] [0, 1, 2, 3, 4, 5, 6, 7, 8, 9, 10] (va_runV (As := [.int x1]) (rest := []) ⟨hx, hb, hml, hown, hts⟩ (c_X2_head l D cI cZ a2 N q4.2 x1 q6.1 q6.2 hq6 H.size) (cwV 1 hts gX2_fitsWithin_X2_head rfl rfl rfl (by decide +kernel) ⟨by first | exact Nat.le_of_ble_eq_true rfl | (try dsimp only) <;> omega, by first | exact Nat.le_of_ble_eq_true rfl | (try dsimp only) <;> omega⟩) (pV [0, 1, 2, 3, 4, 5, 6, 7, 8, 9, 10] hP hD hK hN rfl rfl rfl rfl) rfl rfl hl.1 rfl (lv_room (Nat.le_of_ble_eq_true rfl)) dX2_fitsWithin_55 ⟨Nat.le_of_ble_eq_true rfl, Nat.le_of_ble_eq_true rfl⟩) hP hD hS hA rfl rfl rfl (by decide) rfl rfl (fun H locs hP hD hS => ?_)
          refine lv_if_lt (tgt := 114) hx hb dX2_fitsWithin_58 (by decide) (fun hc7 => ?_) (fun hc7 => ?_)
          · rw [if_pos hc7] at h
            exact k_X2_fitsWithin_114 C0 N d F hF q6.2 x1 x2 _ _ _ hP hD hS (lv_sub hl [0, 1, 2] rfl) h
          · rw [if_neg hc7] at h
            refine lv_aload_n hx hb dX2_fitsWithin_61 rfl (lv_at hl 0 rfl) ?_
            refine lv_iload_n hx hb dX2_fitsWithin_62 rfl (lv_at hl 1 rfl) ?_
            obtain ⟨q8, hq8, h⟩ := ob h
            refine mc_i (ws' := wX2 a2 cI cZ q8.2) (wr := ([] : va_W)) [0, 1, 2, 3, 4, 5, 6, 7, 8, 9, 10] [] [0, 1, 2, 3, 4, 5, 6, 7, 8, 9, 10] (va_runV (As := [.int x1]) (rest := []) ⟨hx, hb, hml, hown, hts⟩ (c_X2_head l D cI cZ a2 N q6.2 x1 q8.1 q8.2 hq8 H.size) (cwV 1 hts gX2_fitsWithin_X2_head rfl rfl rfl (by decide +kernel) ⟨by first | exact Nat.le_of_ble_eq_true rfl | (try dsimp only) <;> omega, by first | exact Nat.le_of_ble_eq_true rfl | (try dsimp only) <;> omega⟩) (pV [0, 1, 2, 3, 4, 5, 6, 7, 8, 9, 10] hP hD hK hN rfl rfl rfl rfl) rfl rfl hl.1 rfl (lv_room (Nat.le_of_ble_eq_true rfl)) dX2_fitsWithin_63 ⟨Nat.le_of_ble_eq_true rfl, Nat.le_of_ble_eq_true rfl⟩) hP hD hS hA rfl rfl rfl (by decide) rfl rfl (fun H locs hP hD hS => ?_)
            refine lv_aload_n hx hb dX2_fitsWithin_66 rfl (lv_at hl 0 rfl) ?_
            refine lv_iload_n hx hb dX2_fitsWithin_67 rfl (lv_at hl 2 rfl) ?_
            obtain ⟨q9, hq9, h⟩ := ob h
            refine mc_i (ws' := wX2 a2 cI cZ q9.2) (wr := ([] : va_W)) [0, 1, 2, 3, 4, 5, 6, 7, 8, 9, 10] [] [0, 1, 2, 3, 4, 5, 6, 7, 8, 9, 10] (va_runV (As := [.int x2]) (rest := [.int q8.1]) ⟨hx, hb, hml, hown, hts⟩ (c_X2_head l D cI cZ a2 N q8.2 x2 q9.1 q9.2 hq9 H.size) (cwV 1 hts gX2_fitsWithin_X2_head rfl rfl rfl (by decide +kernel) ⟨by first | exact Nat.le_of_ble_eq_true rfl | (try dsimp only) <;> omega, by first | exact Nat.le_of_ble_eq_true rfl | (try dsimp only) <;> omega⟩) (pV [0, 1, 2, 3, 4, 5, 6, 7, 8, 9, 10] hP hD hK hN rfl rfl rfl rfl) rfl rfl hl.1 rfl (lv_room (Nat.le_of_ble_eq_true rfl)) dX2_fitsWithin_68 ⟨Nat.le_of_ble_eq_true rfl, Nat.le_of_ble_eq_true rfl⟩) hP hD hS hA rfl rfl rfl (by decide) rfl rfl (fun H locs hP hD hS => ?_)
            refine lv_icmp_ne (tgt := 118) hx hb dX2_fitsWithin_71 (by decide) (fun hc10 => ?_) (fun hc10 => ?_)
            · rw [if_neg hc10] at h
              exact k_X2_fitsWithin_118 C0 N d F hF q9.2 x1 x2 _ _ _ hP hD hS (lv_sub hl [0, 1, 2] rfl) h
            · rw [if_pos hc10] at h
              refine lv_aload_n hx hb dX2_fitsWithin_74 rfl (lv_at hl 0 rfl) ?_
              refine lv_aload_n hx hb dX2_fitsWithin_75 rfl (lv_at hl 0 rfl) ?_
              refine lv_iload_n hx hb dX2_fitsWithin_76 rfl (lv_at hl 1 rfl) ?_
              obtain ⟨q11, hq11, h⟩ := ob h
              refine mc_i (ws' := wX2 a2 cI cZ q11.2) (wr := ([] : va_W)) [0, 1, 2, 3, 4, 5, 6, 7, 8, 9, 10] [] [0, 1, 2, 3, 4, 5, 6, 7, 8, 9, 10] (va_runV (As := [.int x1]) (rest := [.ref (a2 0)]) ⟨hx, hb, hml, hown, hts⟩ (c_X2_first l D cI cZ a2 N q9.2 x1 q11.1 q11.2 hq11 H.size) (cwV 1 hts gX2_fitsWithin_X2_first rfl rfl rfl (by decide +kernel) ⟨by first | exact Nat.le_of_ble_eq_true rfl | (try dsimp only) <;> omega, by first | exact Nat.le_of_ble_eq_true rfl | (try dsimp only) <;> omega⟩) (pV [0, 1, 2, 3, 4, 5, 6, 7, 8, 9, 10] hP hD hK hN rfl rfl rfl rfl) rfl rfl hl.1 rfl (lv_room (Nat.le_of_ble_eq_true rfl)) dX2_fitsWithin_77 ⟨Nat.le_of_ble_eq_true rfl, Nat.le_of_ble_eq_true rfl⟩) hP hD hS hA rfl rfl rfl (by decide) rfl rfl (fun H locs hP hD hS => ?_)
              refine lv_aload_n hx hb dX2_fitsWithin_80 rfl (lv_at hl 0 rfl) ?_
              refine lv_iload_n hx hb dX2_fitsWithin_81 rfl (lv_at hl 2 rfl) ?_
              obtain ⟨q12, hq12, h⟩ := ob h
              refine mc_i (ws' := wX2 a2 cI cZ q12.2) (wr := ([] : va_W)) [0, 1, 2, 3, 4, 5, 6, 7, 8, 9, 10] [] [0, 1, 2, 3, 4, 5, 6, 7, 8, 9, 10] (va_runV (As := [.int x2]) (rest := [.int q11.1, .ref (a2 0)]) ⟨hx, hb, hml, hown, hts⟩ (c_X2_first l D cI cZ a2 N q11.2 x2 q12.1 q12.2 hq12 H.size) (cwV 1 hts gX2_fitsWithin_X2_first rfl rfl rfl (by decide +kernel) ⟨by first | exact Nat.le_of_ble_eq_true rfl | (try dsimp only) <;> omega, by first | exact Nat.le_of_ble_eq_true rfl | (try dsimp only) <;> omega⟩) (pV [0, 1, 2, 3, 4, 5, 6, 7, 8, 9, 10] hP hD hK hN rfl rfl rfl rfl) rfl rfl hl.1 rfl (lv_room (Nat.le_of_ble_eq_true rfl)) dX2_fitsWithin_82 ⟨Nat.le_of_ble_eq_true rfl, Nat.le_of_ble_eq_true rfl⟩) hP hD hS hA rfl rfl rfl (by decide) rfl rfl (fun H locs hP hD hS => ?_)
              refine lv_iload_n hx hb dX2_fitsWithin_85 rfl (lv_at hl 3 rfl) ?_
              refine lv_iconst (v := 1) hx hb dX2_fitsWithin_86 rfl ?_
              refine lv_isub hx hb dX2_fitsWithin_87 ?_
              obtain ⟨q13, hq13, h⟩ := ob h
              refine mc_i (ws' := wX2 a2 cI cZ q13.2) (wr := ([] : va_W)) [0, 1, 2, 3, 4, 5, 6, 7, 8, 9, 10] [] [0, 1, 2, 3, 4, 5, 6, 7, 8, 9, 10] (va_runV (As := [.int q11.1, .int q12.1, .int (x3 - 1)]) (rest := []) ⟨hx, hb, hml, hown, hts⟩ (hF q12.2 q11.1 q12.1 (x3 - 1) q13.1 q13.2 hq13 H.size) (cwV 3 hts gX2_fitsWithin_X2_fitsWithin rfl rfl rfl (by decide +kernel) ⟨by first | exact Nat.le_of_ble_eq_true rfl | (try dsimp only) <;> omega, by first | exact Nat.le_of_ble_eq_true rfl | (try dsimp only) <;> omega⟩) (pV [0, 1, 2, 3, 4, 5, 6, 7, 8, 9, 10] hP hD hK hN rfl rfl rfl rfl) rfl rfl hl.1 rfl (lv_room (Nat.le_of_ble_eq_true rfl)) dX2_fitsWithin_88 ⟨Nat.le_of_ble_eq_true rfl, Nat.le_of_ble_eq_true rfl⟩) hP hD hS hA rfl rfl rfl (by decide) rfl rfl (fun H locs hP hD hS => ?_)
              refine lv_if_eq (tgt := 118) hx hb dX2_fitsWithin_91 (by decide) (fun hc14 => ?_) (fun hc14 => ?_)
              · rw [if_pos hc14] at h
                exact k_X2_fitsWithin_118 C0 N d F hF q13.2 x1 x2 _ _ _ hP hD hS (lv_sub hl [0, 1, 2] rfl) h
              · rw [if_neg hc14] at h
                refine lv_aload_n hx hb dX2_fitsWithin_94 rfl (lv_at hl 0 rfl) ?_
                refine lv_aload_n hx hb dX2_fitsWithin_95 rfl (lv_at hl 0 rfl) ?_
                refine lv_iload_n hx hb dX2_fitsWithin_96 rfl (lv_at hl 1 rfl) ?_
                obtain ⟨q15, hq15, h⟩ := ob h
                refine mc_i (ws' := wX2 a2 cI cZ q15.2) (wr := ([] : va_W)) [0, 1, 2, 3, 4, 5, 6, 7, 8, 9, 10] [] [0, 1, 2, 3, 4, 5, 6, 7, 8, 9, 10] (va_runV (As := [.int x1]) (rest := [.ref (a2 0)]) ⟨hx, hb, hml, hown, hts⟩ (c_X2_second l D cI cZ a2 N q13.2 x1 q15.1 q15.2 hq15 H.size) (cwV 1 hts gX2_fitsWithin_X2_second rfl rfl rfl (by decide +kernel) ⟨by first | exact Nat.le_of_ble_eq_true rfl | (try dsimp only) <;> omega, by first | exact Nat.le_of_ble_eq_true rfl | (try dsimp only) <;> omega⟩) (pV [0, 1, 2, 3, 4, 5, 6, 7, 8, 9, 10] hP hD hK hN rfl rfl rfl rfl) rfl rfl hl.1 rfl (lv_room (Nat.le_of_ble_eq_true rfl)) dX2_fitsWithin_97 ⟨Nat.le_of_ble_eq_true rfl, Nat.le_of_ble_eq_true rfl⟩) hP hD hS hA rfl rfl rfl (by decide) rfl rfl (fun H locs hP hD hS => ?_)
                refine lv_aload_n hx hb dX2_fitsWithin_100 rfl (lv_at hl 0 rfl) ?_
                refine lv_iload_n hx hb dX2_fitsWithin_101 rfl (lv_at hl 2 rfl) ?_
                obtain ⟨q16, hq16, h⟩ := ob h
                refine mc_i (ws' := wX2 a2 cI cZ q16.2) (wr := ([] : va_W)) [0, 1, 2, 3, 4, 5, 6, 7, 8, 9, 10] [] [0, 1, 2, 3, 4, 5, 6, 7, 8, 9, 10] (va_runV (As := [.int x2]) (rest := [.int q15.1, .ref (a2 0)]) ⟨hx, hb, hml, hown, hts⟩ (c_X2_second l D cI cZ a2 N q15.2 x2 q16.1 q16.2 hq16 H.size) (cwV 1 hts gX2_fitsWithin_X2_second rfl rfl rfl (by decide +kernel) ⟨by first | exact Nat.le_of_ble_eq_true rfl | (try dsimp only) <;> omega, by first | exact Nat.le_of_ble_eq_true rfl | (try dsimp only) <;> omega⟩) (pV [0, 1, 2, 3, 4, 5, 6, 7, 8, 9, 10] hP hD hK hN rfl rfl rfl rfl) rfl rfl hl.1 rfl (lv_room (Nat.le_of_ble_eq_true rfl)) dX2_fitsWithin_102 ⟨Nat.le_of_ble_eq_true rfl, Nat.le_of_ble_eq_true rfl⟩) hP hD hS hA rfl rfl rfl (by decide) rfl rfl (fun H locs hP hD hS => ?_)
                refine lv_iload_n hx hb dX2_fitsWithin_105 rfl (lv_at hl 3 rfl) ?_
                refine lv_iconst (v := 1) hx hb dX2_fitsWithin_106 rfl ?_
                refine lv_isub hx hb dX2_fitsWithin_107 ?_
                obtain ⟨q17, hq17, h⟩ := ob h
                refine mc_i (ws' := wX2 a2 cI cZ q17.2) (wr := ([] : va_W)) [0, 1, 2, 3, 4, 5, 6, 7, 8, 9, 10] [] [0, 1, 2, 3, 4, 5, 6, 7, 8, 9, 10] (va_runV (As := [.int q15.1, .int q16.1, .int (x3 - 1)]) (rest := []) ⟨hx, hb, hml, hown, hts⟩ (hF q16.2 q15.1 q16.1 (x3 - 1) q17.1 q17.2 hq17 H.size) (cwV 3 hts gX2_fitsWithin_X2_fitsWithin rfl rfl rfl (by decide +kernel) ⟨by first | exact Nat.le_of_ble_eq_true rfl | (try dsimp only) <;> omega, by first | exact Nat.le_of_ble_eq_true rfl | (try dsimp only) <;> omega⟩) (pV [0, 1, 2, 3, 4, 5, 6, 7, 8, 9, 10] hP hD hK hN rfl rfl rfl rfl) rfl rfl hl.1 rfl (lv_room (Nat.le_of_ble_eq_true rfl)) dX2_fitsWithin_108 ⟨Nat.le_of_ble_eq_true rfl, Nat.le_of_ble_eq_true rfl⟩) hP hD hS hA rfl rfl rfl (by decide) rfl rfl (fun H locs hP hD hS => ?_)
                refine lv_if_eq (tgt := 118) hx hb dX2_fitsWithin_111 (by decide) (fun hc18 => ?_) (fun hc18 => ?_)
                · rw [if_pos hc18] at h
                  exact k_X2_fitsWithin_118 C0 N d F hF q17.2 x1 x2 _ _ _ hP hD hS (lv_sub hl [0, 1, 2] rfl) h
                · rw [if_neg hc18] at h
                  exact k_X2_fitsWithin_114 C0 N d F hF q17.2 x1 x2 _ _ _ hP hD hS (lv_sub hl [0, 1, 2] rfl) h
        · rw [if_neg hc5] at h
          refine lv_aload_n hx hb dX2_fitsWithin_35 rfl (lv_at hl 0 rfl) ?_
          refine va_get (D := D) (ci := 2) (v := .ref (a2 8)) (C := RX2) (T := TX2) (N := 14) hx hb hts in_X2_fitsWithin_X2 hown hK hP 0 rfl rfl 7 (by decide) (hts (.fieldLink RX2 33 "TermLoom$TypeTable" "images" "[I") (by decide +kernel)) (fun _ h9 => h9) rfl dX2_fitsWithin_36 ?_
          refine lv_iload_n hx hb dX2_fitsWithin_39 rfl (lv_at hl 1 rfl) ?_
          obtain ⟨q19, hq19, h⟩ := ob h
          refine mc_i (ws' := wX2 a2 cI cZ q4.2) (wr := ((wX2 a2 cI cZ q4.2).eraseIdx 8)) [8] [0, 1, 2, 3, 4, 5, 6, 7, 9, 10] [0, 1, 2, 3, 4, 5, 6, 7, 10, 8, 9] (va_runSN (As := [.ref (a2 8), .int x1]) (rest := []) ⟨hx, hb, hml, hown, hts⟩ (c_X4_read l D cI cZ (a2 8) 8000 (q4.2 7) N x1 q19.1 q19.2 hq19 H.size) ⟨va_cnB 2 hts gX2_fitsWithin_X4_read_n52 rfl rfl rfl (nw_X2_52 hN) (hts (.initialized RX4) (by decide +kernel)) (by decide +kernel) ⟨by first | exact Nat.le_of_ble_eq_true rfl | (try dsimp only) <;> omega, by first | exact Nat.le_of_ble_eq_true rfl | (try dsimp only) <;> omega⟩, hts (.static yX4_read) (by decide +kernel), trivial⟩ (pS [8] hP hD hK hN rfl rfl) rfl rfl hl.1 rfl (lv_room (Nat.le_of_ble_eq_true rfl)) dX2_fitsWithin_40 ⟨Nat.le_of_ble_eq_true rfl, Nat.le_of_ble_eq_true rfl⟩) hP hD hS hA rfl rfl rfl (by decide) rfl rfl (fun H locs hP hD hS => ?_)
          refine lv_iload_n hx hb dX2_fitsWithin_43 rfl (lv_at hl 2 rfl) ?_
          refine lv_icmp_ne (tgt := 51) hx hb dX2_fitsWithin_44 (by decide) (fun hc20 => ?_) (fun hc20 => ?_)
          · rw [if_neg hc20] at h
            refine lv_iconst (v := 0) hx hb dX2_fitsWithin_51 rfl ?_
            exact k_X2_fitsWithin_52 C0 N d F hF q4.2 0 _ _ _ hP hD hS (lv_sub hl [] rfl) h
          · rw [if_pos hc20] at h
            refine lv_iconst (v := 1) hx hb dX2_fitsWithin_47 rfl ?_
            refine lv_goto (tgt := 52) hx hb dX2_fitsWithin_48 (by decide) ?_
            exact k_X2_fitsWithin_52 C0 N d F hF q4.2 1 _ _ _ hP hD hS (lv_sub hl [] rfl) h
      · rw [if_neg hc3] at h
        refine lv_iconst (v := 0) hx hb dX2_fitsWithin_25 rfl ?_
        obtain ⟨rfl, rfl⟩ := so h
        exact ret_z C0 (Or.inl rfl) hP hD hS dX2_fitsWithin_26
    · rw [if_pos hc2] at h
      exact k_X2_fitsWithin_10 C0 N d F hF y x1 x2 _ _ _ hP hD hS (lv_sub hl [1, 2] rfl) h
def f_X2_fitsWithin (N : Nat) : Nat → St → Int32 → Int32 → Int32 → Option (Int32 × St)
  | 0, _, _, _, _ => none
  | d + 1, y, x1, x2, x3 => f_X2_fitsWithin_step N (f_X2_fitsWithin N d) y x1 x2 x3
set_option maxHeartbeats 4000000 in
set_option maxRecDepth 100000 in
theorem c_X2_fitsWithin (l : Launch) (D : va_G) (cI cZ : ClassId) (a2 : Nat → Nat) (N : Nat) : ∀ (d : Nat) (y : St) (x1 x2 x3 : Int32) , MI l yX2_fitsWithin wsX2_fitsWithin ({ frames := 5 * d + 1, cells := 0, slots := 0, locals := 200 * d } : Room) D cI cZ (wX2 a2 cI cZ) [.ref (a2 0), .int x1, .int x2, .int x3] y (f_X2_fitsWithin N d y x1 x2 x3) := by
  intro d
  induction d with
  | zero =>
    intro y x1 x2 x3 r u1 h
    exact no (show (none : Option (Int32 × St)) = _ from h)
  | succ d ih =>
    intro y x1 x2 x3
    rw [f_X2_fitsWithin]
    exact c_X2_fitsWithin_step l D cI cZ a2 N d (f_X2_fitsWithin N d) ih y x1 x2 x3

def f_X2_fits (N : Nat) (y : St) (x1 x2 : Int32) : Option (Int32 × St) := (f_X2_fitsWithin N 25 y x1 x2 24).bind (fun q1 => if q1.1 = 0 ∨ q1.1 = 1 then some (q1.1, q1.2) else none)
set_option maxHeartbeats 4000000 in
set_option maxRecDepth 100000 in
theorem c_X2_fits (l : Launch) (D : va_G) (cI cZ : ClassId) (a2 : Nat → Nat) (N : Nat) (y : St) (x1 x2 : Int32) : MI l yX2_fits wsX2_fits ({ frames := 127, cells := 0, slots := 0, locals := 5024 } : Room) D cI cZ (wX2 a2 cI cZ) [.ref (a2 0), .int x1, .int x2] y (f_X2_fits N y x1 x2) := by
  refine MI.of (cc := cX2_fits) (maxL := 3) (ret := (some .boolean)) (own := RX2) (by decide) rfl rfl (Nat.le_of_ble_eq_true rfl) ?_
  intro r u1 h p e s m args below meth c A C0 H locs ls hP hD hS hl
  obtain ⟨hx, hb, hml, hr, hown, hts, hlocks, hA, hK, hN⟩ := id C0
  have hl : lv_has ls 3 [(0, .ref (a2 0)), (1, .int x1), (2, .int x2)] := hl
  unfold f_X2_fits at h
  refine lv_aload_n hx hb dX2_fits_0 rfl (lv_at hl 0 rfl) ?_
  refine lv_iload_n hx hb dX2_fits_1 rfl (lv_at hl 1 rfl) ?_
  refine lv_iload_n hx hb dX2_fits_2 rfl (lv_at hl 2 rfl) ?_
  refine lv_bipush (v := 24) hx hb dX2_fits_3 rfl ?_
  obtain ⟨q1, hq1, h⟩ := ob h
  refine mc_i (ws' := wX2 a2 cI cZ q1.2) (wr := ([] : va_W)) [0, 1, 2, 3, 4, 5, 6, 7, 8, 9, 10] [] [0, 1, 2, 3, 4, 5, 6, 7, 8, 9, 10] (va_runV (As := [.int x1, .int x2, .int 24]) (rest := []) ⟨hx, hb, hml, hown, hts⟩ (c_X2_fitsWithin l D cI cZ a2 N 25 y x1 x2 24 q1.1 q1.2 hq1 H.size) (cwV 3 hts gX2_fits_X2_fitsWithin rfl rfl rfl (by decide +kernel) ⟨Nat.le_of_ble_eq_true rfl, Nat.le_of_ble_eq_true rfl⟩) (pV [0, 1, 2, 3, 4, 5, 6, 7, 8, 9, 10] hP hD hK hN rfl rfl rfl rfl) rfl rfl hl.1 rfl (lv_room (Nat.le_of_ble_eq_true rfl)) dX2_fits_5 ⟨Nat.le_of_ble_eq_true rfl, Nat.le_of_ble_eq_true rfl⟩) hP hD hS hA rfl rfl rfl (by decide) rfl rfl (fun H locs hP hD hS => ?_)
  by_cases hz : q1.1 = 0 ∨ q1.1 = 1
  · rw [if_pos hz] at h
    obtain ⟨rfl, rfl⟩ := so h
    exact ret_z C0 hz hP hD hS dX2_fits_8
  · rw [if_neg hz] at h; exact no h

def f_X2_rebuilt_71 (N : Nat) (F : St → Int32 → Int32 → Option (Int32 × St)) (y : St) (s0 : Int32) : Option (Int32 × St) := some (s0, y)
def f_X2_rebuilt_55 (N : Nat) (F : St → Int32 → Int32 → Option (Int32 × St)) (y : St) : Option (Int32 × St) := f_X2_rebuilt_71 N F y (-1)
def f_X2_rebuilt_43 (N : Nat) (F : St → Int32 → Int32 → Option (Int32 × St)) (y : St) (x1 x3 x4 s0 : Int32) : Option (Int32 × St) := if x3 = (-1) then f_X2_rebuilt_55 N F y else if s0 = 0 then (f_X2_head N y x1).bind (fun q3 => (f_X2_made N q3.2 q3.1 x3 x4).bind (fun q4 => f_X2_rebuilt_71 N F q4.2 q4.1)) else f_X2_rebuilt_55 N F y
def f_X2_rebuilt_42 (N : Nat) (F : St → Int32 → Int32 → Option (Int32 × St)) (y : St) (x1 x3 x4 : Int32) : Option (Int32 × St) := f_X2_rebuilt_43 N F y x1 x3 x4 0
def f_X2_rebuilt (N : Nat) (F : St → Int32 → Int32 → Option (Int32 × St)) (y : St) (x1 x2 : Int32) : Option (Int32 × St) := (f_X2_first N y x1).bind (fun q1 => (F q1.2 q1.1 x2).bind (fun q2 => (f_X2_second N q2.2 x1).bind (fun q3 => (F q3.2 q3.1 x2).bind (fun q4 => if q4.1 = (-1) then (f_X2_second N q4.2 x1).bind (fun q6 => if q6.1 = (-1) then f_X2_rebuilt_42 N F q6.2 x1 q2.1 q4.1 else f_X2_rebuilt_43 N F q6.2 x1 q2.1 q4.1 1) else f_X2_rebuilt_42 N F q4.2 x1 q2.1 q4.1))))
abbrev KP_X2_rebuilt_71 (p : Program) (l : Launch) (e : Env) (s : State) (m : MethodId) (args : Array Value) (below : List Frame) (meth : Method) (c : Code) (D : va_G) (cI cZ : ClassId) (a2 : Nat → Nat) (d : Nat) (A : Nat → Prop) (r : Int32) (u1 : St) (K : St → Int32 → Option (Int32 × St)) : Prop := ∀ (y : St) (s0 : Int32) (H : Heap) (locs : List Loc) (ls : Array Slot), va_P D vwCl (wX2 a2 cI cZ y) H → va_D A (wX2 a2 cI cZ y) → va_S A s.heap H locs → lv_has ls 6 [] → K y s0 = some (r, u1) → W p l e ({ frames := 5 * d + 5, cells := 0, slots := 0, locals := 200 * d + 100 } : Room) s m args below meth c H locs 0 0 (QI below args s D cI cZ (wX2 a2 cI cZ) A r u1) (F0 m 71 ls [.int s0])
abbrev KP_X2_rebuilt_55 (p : Program) (l : Launch) (e : Env) (s : State) (m : MethodId) (args : Array Value) (below : List Frame) (meth : Method) (c : Code) (D : va_G) (cI cZ : ClassId) (a2 : Nat → Nat) (d : Nat) (A : Nat → Prop) (r : Int32) (u1 : St) (K : St → Option (Int32 × St)) : Prop := ∀ (y : St) (H : Heap) (locs : List Loc) (ls : Array Slot), va_P D vwCl (wX2 a2 cI cZ y) H → va_D A (wX2 a2 cI cZ y) → va_S A s.heap H locs → lv_has ls 6 [] → K y = some (r, u1) → W p l e ({ frames := 5 * d + 5, cells := 0, slots := 0, locals := 200 * d + 100 } : Room) s m args below meth c H locs 0 0 (QI below args s D cI cZ (wX2 a2 cI cZ) A r u1) (F0 m 55 ls [])
abbrev KP_X2_rebuilt_43 (p : Program) (l : Launch) (e : Env) (s : State) (m : MethodId) (args : Array Value) (below : List Frame) (meth : Method) (c : Code) (D : va_G) (cI cZ : ClassId) (a2 : Nat → Nat) (d : Nat) (A : Nat → Prop) (r : Int32) (u1 : St) (K : St → Int32 → Int32 → Int32 → Int32 → Option (Int32 × St)) : Prop := ∀ (y : St) (x1 x3 x4 s0 : Int32) (H : Heap) (locs : List Loc) (ls : Array Slot), va_P D vwCl (wX2 a2 cI cZ y) H → va_D A (wX2 a2 cI cZ y) → va_S A s.heap H locs → lv_has ls 6 [(0, .ref (a2 0)), (1, .int x1), (3, .int x3), (4, .int x4)] → K y x1 x3 x4 s0 = some (r, u1) → W p l e ({ frames := 5 * d + 5, cells := 0, slots := 0, locals := 200 * d + 100 } : Room) s m args below meth c H locs 0 0 (QI below args s D cI cZ (wX2 a2 cI cZ) A r u1) (F0 m 43 ls [.int s0])
abbrev KP_X2_rebuilt_42 (p : Program) (l : Launch) (e : Env) (s : State) (m : MethodId) (args : Array Value) (below : List Frame) (meth : Method) (c : Code) (D : va_G) (cI cZ : ClassId) (a2 : Nat → Nat) (d : Nat) (A : Nat → Prop) (r : Int32) (u1 : St) (K : St → Int32 → Int32 → Int32 → Option (Int32 × St)) : Prop := ∀ (y : St) (x1 x3 x4 : Int32) (H : Heap) (locs : List Loc) (ls : Array Slot), va_P D vwCl (wX2 a2 cI cZ y) H → va_D A (wX2 a2 cI cZ y) → va_S A s.heap H locs → lv_has ls 6 [(0, .ref (a2 0)), (1, .int x1), (3, .int x3), (4, .int x4)] → K y x1 x3 x4 = some (r, u1) → W p l e ({ frames := 5 * d + 5, cells := 0, slots := 0, locals := 200 * d + 100 } : Room) s m args below meth c H locs 0 0 (QI below args s D cI cZ (wX2 a2 cI cZ) A r u1) (F0 m 42 ls [])
set_option maxHeartbeats 4000000 in
set_option maxRecDepth 100000 in
theorem k_X2_rebuilt_71 {p : Program} {l : Launch} {e : Env} {s : State} {m : MethodId} {args : Array Value} {below : List Frame} {meth : Method} {c : Code} {D : va_G} {cI cZ : ClassId} {a2 : Nat → Nat} {A : Nat → Prop} {r : Int32} {u1 : St} (C0 : mB p s m args meth c D cI cZ A cX2_rebuilt 6 (some .int) wsX2_rebuilt RX2) (N : Nat) (d : Nat) (F : St → Int32 → Int32 → Option (Int32 × St)) (hF : ∀ (v : St) (z0 z1 : Int32), MI l yX2_imageWithin wsX2_imageWithin ({ frames := 5 * d + 1, cells := 0, slots := 0, locals := 200 * d } : Room) D cI cZ (wX2 a2 cI cZ) [.ref (a2 0), .int z0, .int z1] v (F v z0 z1)) : KP_X2_rebuilt_71 p l e s m args below meth c D cI cZ a2 d A r u1 (f_X2_rebuilt_71 N F) := by
  obtain ⟨hx, hb, hml, hr, hown, hts, hlocks, hA, hK, hN⟩ := id C0
  intro y s0 H locs ls hP hD hS hl h
  unfold f_X2_rebuilt_71 at h
  obtain ⟨rfl, rfl⟩ := so h
  exact ret_i C0 hP hD hS dX2_rebuilt_71
set_option maxHeartbeats 4000000 in
set_option maxRecDepth 100000 in
theorem k_X2_rebuilt_55 {p : Program} {l : Launch} {e : Env} {s : State} {m : MethodId} {args : Array Value} {below : List Frame} {meth : Method} {c : Code} {D : va_G} {cI cZ : ClassId} {a2 : Nat → Nat} {A : Nat → Prop} {r : Int32} {u1 : St} (C0 : mB p s m args meth c D cI cZ A cX2_rebuilt 6 (some .int) wsX2_rebuilt RX2) (N : Nat) (d : Nat) (F : St → Int32 → Int32 → Option (Int32 × St)) (hF : ∀ (v : St) (z0 z1 : Int32), MI l yX2_imageWithin wsX2_imageWithin ({ frames := 5 * d + 1, cells := 0, slots := 0, locals := 200 * d } : Room) D cI cZ (wX2 a2 cI cZ) [.ref (a2 0), .int z0, .int z1] v (F v z0 z1)) : KP_X2_rebuilt_55 p l e s m args below meth c D cI cZ a2 d A r u1 (f_X2_rebuilt_55 N F) := by
  obtain ⟨hx, hb, hml, hr, hown, hts, hlocks, hA, hK, hN⟩ := id C0
  intro y H locs ls hP hD hS hl h
  unfold f_X2_rebuilt_55 at h
  refine lv_iconst (v := (-1)) hx hb dX2_rebuilt_55 rfl ?_
  refine lv_goto (tgt := 71) hx hb dX2_rebuilt_56 (by decide) ?_
  exact k_X2_rebuilt_71 C0 N d F hF y (-1) _ _ _ hP hD hS (lv_sub hl [] rfl) h
set_option maxHeartbeats 4000000 in
set_option maxRecDepth 100000 in
theorem k_X2_rebuilt_43 {p : Program} {l : Launch} {e : Env} {s : State} {m : MethodId} {args : Array Value} {below : List Frame} {meth : Method} {c : Code} {D : va_G} {cI cZ : ClassId} {a2 : Nat → Nat} {A : Nat → Prop} {r : Int32} {u1 : St} (C0 : mB p s m args meth c D cI cZ A cX2_rebuilt 6 (some .int) wsX2_rebuilt RX2) (N : Nat) (d : Nat) (F : St → Int32 → Int32 → Option (Int32 × St)) (hF : ∀ (v : St) (z0 z1 : Int32), MI l yX2_imageWithin wsX2_imageWithin ({ frames := 5 * d + 1, cells := 0, slots := 0, locals := 200 * d } : Room) D cI cZ (wX2 a2 cI cZ) [.ref (a2 0), .int z0, .int z1] v (F v z0 z1)) : KP_X2_rebuilt_43 p l e s m args below meth c D cI cZ a2 d A r u1 (f_X2_rebuilt_43 N F) := by
  obtain ⟨hx, hb, hml, hr, hown, hts, hlocks, hA, hK, hN⟩ := id C0
  intro y x1 x3 x4 s0 H locs ls hP hD hS hl h
  unfold f_X2_rebuilt_43 at h
  refine lv_istore (lv' := [(5, .int s0), (0, .ref (a2 0)), (1, .int x1), (3, .int x3), (4, .int x4)]) hx hb dX2_rebuilt_43 hl (by decide) rfl (fun ls hl => ?_)
  refine lv_iload_n hx hb dX2_rebuilt_45 rfl (lv_at hl 3 rfl) ?_
  refine lv_iconst (v := (-1)) hx hb dX2_rebuilt_46 rfl ?_
  refine lv_icmp_eq (tgt := 55) hx hb dX2_rebuilt_47 (by decide) (fun hc1 => ?_) (fun hc1 => ?_)
  · rw [if_pos hc1] at h
    exact k_X2_rebuilt_55 C0 N d F hF y _ _ _ hP hD hS (lv_sub hl [] rfl) h
  · rw [if_neg hc1] at h
    refine lv_iload hx hb dX2_rebuilt_50 (lv_at hl 0 rfl) ?_
    refine lv_if_eq (tgt := 59) hx hb dX2_rebuilt_52 (by decide) (fun hc2 => ?_) (fun hc2 => ?_)
    · rw [if_pos hc2] at h
      refine lv_aload_n hx hb dX2_rebuilt_59 rfl (lv_at hl 1 rfl) ?_
      refine lv_aload_n hx hb dX2_rebuilt_60 rfl (lv_at hl 1 rfl) ?_
      refine lv_iload_n hx hb dX2_rebuilt_61 rfl (lv_at hl 2 rfl) ?_
      obtain ⟨q3, hq3, h⟩ := ob h
      refine mc_i (ws' := wX2 a2 cI cZ q3.2) (wr := ([] : va_W)) [0, 1, 2, 3, 4, 5, 6, 7, 8, 9, 10] [] [0, 1, 2, 3, 4, 5, 6, 7, 8, 9, 10] (va_runV (As := [.int x1]) (rest := [.ref (a2 0)]) ⟨hx, hb, hml, hown, hts⟩ (c_X2_head l D cI cZ a2 N y x1 q3.1 q3.2 hq3 H.size) (cwV 1 hts gX2_rebuilt_X2_head rfl rfl rfl (by decide +kernel) ⟨by first | exact Nat.le_of_ble_eq_true rfl | (try dsimp only) <;> omega, by first | exact Nat.le_of_ble_eq_true rfl | (try dsimp only) <;> omega⟩) (pV [0, 1, 2, 3, 4, 5, 6, 7, 8, 9, 10] hP hD hK hN rfl rfl rfl rfl) rfl rfl hl.1 rfl (lv_room (Nat.le_of_ble_eq_true rfl)) dX2_rebuilt_62 ⟨Nat.le_of_ble_eq_true rfl, Nat.le_of_ble_eq_true rfl⟩) hP hD hS hA rfl rfl rfl (by decide) rfl rfl (fun H locs hP hD hS => ?_)
      refine lv_iload_n hx hb dX2_rebuilt_65 rfl (lv_at hl 3 rfl) ?_
      refine lv_iload hx hb dX2_rebuilt_66 (lv_at hl 4 rfl) ?_
      obtain ⟨q4, hq4, h⟩ := ob h
      refine mc_i (ws' := wX2 a2 cI cZ q4.2) (wr := ([] : va_W)) [0, 1, 2, 3, 4, 5, 6, 7, 8, 9, 10] [] [0, 1, 2, 3, 4, 5, 6, 7, 8, 9, 10] (va_runV (As := [.int q3.1, .int x3, .int x4]) (rest := []) ⟨hx, hb, hml, hown, hts⟩ (c_X2_made l D cI cZ a2 N q3.2 q3.1 x3 x4 q4.1 q4.2 hq4 H.size) (cwV 3 hts gX2_rebuilt_X2_made rfl rfl rfl (by decide +kernel) ⟨by first | exact Nat.le_of_ble_eq_true rfl | (try dsimp only) <;> omega, by first | exact Nat.le_of_ble_eq_true rfl | (try dsimp only) <;> omega⟩) (pV [0, 1, 2, 3, 4, 5, 6, 7, 8, 9, 10] hP hD hK hN rfl rfl rfl rfl) rfl rfl hl.1 rfl (lv_room (Nat.le_of_ble_eq_true rfl)) dX2_rebuilt_68 ⟨Nat.le_of_ble_eq_true rfl, Nat.le_of_ble_eq_true rfl⟩) hP hD hS hA rfl rfl rfl (by decide) rfl rfl (fun H locs hP hD hS => ?_)
      exact k_X2_rebuilt_71 C0 N d F hF q4.2 q4.1 _ _ _ hP hD hS (lv_sub hl [] rfl) h
    · rw [if_neg hc2] at h
      exact k_X2_rebuilt_55 C0 N d F hF y _ _ _ hP hD hS (lv_sub hl [] rfl) h
set_option maxHeartbeats 4000000 in
set_option maxRecDepth 100000 in
theorem k_X2_rebuilt_42 {p : Program} {l : Launch} {e : Env} {s : State} {m : MethodId} {args : Array Value} {below : List Frame} {meth : Method} {c : Code} {D : va_G} {cI cZ : ClassId} {a2 : Nat → Nat} {A : Nat → Prop} {r : Int32} {u1 : St} (C0 : mB p s m args meth c D cI cZ A cX2_rebuilt 6 (some .int) wsX2_rebuilt RX2) (N : Nat) (d : Nat) (F : St → Int32 → Int32 → Option (Int32 × St)) (hF : ∀ (v : St) (z0 z1 : Int32), MI l yX2_imageWithin wsX2_imageWithin ({ frames := 5 * d + 1, cells := 0, slots := 0, locals := 200 * d } : Room) D cI cZ (wX2 a2 cI cZ) [.ref (a2 0), .int z0, .int z1] v (F v z0 z1)) : KP_X2_rebuilt_42 p l e s m args below meth c D cI cZ a2 d A r u1 (f_X2_rebuilt_42 N F) := by
  obtain ⟨hx, hb, hml, hr, hown, hts, hlocks, hA, hK, hN⟩ := id C0
  intro y x1 x3 x4 H locs ls hP hD hS hl h
  unfold f_X2_rebuilt_42 at h
  refine lv_iconst (v := 0) hx hb dX2_rebuilt_42 rfl ?_
  exact k_X2_rebuilt_43 C0 N d F hF y x1 x3 x4 0 _ _ _ hP hD hS (lv_sub hl [0, 1, 2, 3] rfl) h
set_option maxHeartbeats 4000000 in
set_option maxRecDepth 100000 in
theorem c_X2_rebuilt (l : Launch) (D : va_G) (cI cZ : ClassId) (a2 : Nat → Nat) (N : Nat) (d : Nat) (F : St → Int32 → Int32 → Option (Int32 × St)) (hF : ∀ (v : St) (z0 z1 : Int32), MI l yX2_imageWithin wsX2_imageWithin ({ frames := 5 * d + 1, cells := 0, slots := 0, locals := 200 * d } : Room) D cI cZ (wX2 a2 cI cZ) [.ref (a2 0), .int z0, .int z1] v (F v z0 z1)) (y : St) (x1 x2 : Int32) : MI l yX2_rebuilt wsX2_rebuilt ({ frames := 5 * d + 5, cells := 0, slots := 0, locals := 200 * d + 100 } : Room) D cI cZ (wX2 a2 cI cZ) [.ref (a2 0), .int x1, .int x2] y (f_X2_rebuilt N F y x1 x2) := by
  refine MI.of (cc := cX2_rebuilt) (maxL := 6) (ret := (some .int)) (own := RX2) (by decide) rfl rfl (Nat.le_of_ble_eq_true rfl) ?_
  intro r u1 h p e s m args below meth c A C0 H locs ls hP hD hS hl
  obtain ⟨hx, hb, hml, hr, hown, hts, hlocks, hA, hK, hN⟩ := id C0
  have hl : lv_has ls 6 [(0, .ref (a2 0)), (1, .int x1), (2, .int x2)] := hl
  unfold f_X2_rebuilt at h
  refine lv_aload_n hx hb dX2_rebuilt_0 rfl (lv_at hl 0 rfl) ?_
  refine lv_aload_n hx hb dX2_rebuilt_1 rfl (lv_at hl 0 rfl) ?_
  refine lv_iload_n hx hb dX2_rebuilt_2 rfl (lv_at hl 1 rfl) ?_
  obtain ⟨q1, hq1, h⟩ := ob h
  refine mc_i (ws' := wX2 a2 cI cZ q1.2) (wr := ([] : va_W)) [0, 1, 2, 3, 4, 5, 6, 7, 8, 9, 10] [] [0, 1, 2, 3, 4, 5, 6, 7, 8, 9, 10] (va_runV (As := [.int x1]) (rest := [.ref (a2 0)]) ⟨hx, hb, hml, hown, hts⟩ (c_X2_first l D cI cZ a2 N y x1 q1.1 q1.2 hq1 H.size) (cwV 1 hts gX2_rebuilt_X2_first rfl rfl rfl (by decide +kernel) ⟨by first | exact Nat.le_of_ble_eq_true rfl | (try dsimp only) <;> omega, by first | exact Nat.le_of_ble_eq_true rfl | (try dsimp only) <;> omega⟩) (pV [0, 1, 2, 3, 4, 5, 6, 7, 8, 9, 10] hP hD hK hN rfl rfl rfl rfl) rfl rfl hl.1 rfl (lv_room (Nat.le_of_ble_eq_true rfl)) dX2_rebuilt_3 ⟨Nat.le_of_ble_eq_true rfl, Nat.le_of_ble_eq_true rfl⟩) hP hD hS hA rfl rfl rfl (by decide) rfl rfl (fun H locs hP hD hS => ?_)
  refine lv_iload_n hx hb dX2_rebuilt_6 rfl (lv_at hl 2 rfl) ?_
  obtain ⟨q2, hq2, h⟩ := ob h
  refine mc_i (ws' := wX2 a2 cI cZ q2.2) (wr := ([] : va_W)) [0, 1, 2, 3, 4, 5, 6, 7, 8, 9, 10] [] [0, 1, 2, 3, 4, 5, 6, 7, 8, 9, 10] (va_runV (As := [.int q1.1, .int x2]) (rest := []) ⟨hx, hb, hml, hown, hts⟩ (hF q1.2 q1.1 x2 q2.1 q2.2 hq2 H.size) (cwV 2 hts gX2_rebuilt_X2_imageWithin rfl rfl rfl (by decide +kernel) ⟨by first | exact Nat.le_of_ble_eq_true rfl | (try dsimp only) <;> omega, by first | exact Nat.le_of_ble_eq_true rfl | (try dsimp only) <;> omega⟩) (pV [0, 1, 2, 3, 4, 5, 6, 7, 8, 9, 10] hP hD hK hN rfl rfl rfl rfl) rfl rfl hl.1 rfl (lv_room (Nat.le_of_ble_eq_true rfl)) dX2_rebuilt_7 ⟨Nat.le_of_ble_eq_true rfl, Nat.le_of_ble_eq_true rfl⟩) hP hD hS hA rfl rfl rfl (by decide) rfl rfl (fun H locs hP hD hS => ?_)
  refine lv_istore_n (lv' := [(3, .int q2.1), (0, .ref (a2 0)), (1, .int x1), (2, .int x2)]) hx hb dX2_rebuilt_10 rfl hl (by decide) rfl (fun ls hl => ?_)
  refine lv_aload_n hx hb dX2_rebuilt_11 rfl (lv_at hl 1 rfl) ?_
  refine lv_aload_n hx hb dX2_rebuilt_12 rfl (lv_at hl 1 rfl) ?_
  refine lv_iload_n hx hb dX2_rebuilt_13 rfl (lv_at hl 2 rfl) ?_
  obtain ⟨q3, hq3, h⟩ := ob h
  refine mc_i (ws' := wX2 a2 cI cZ q3.2) (wr := ([] : va_W)) [0, 1, 2, 3, 4, 5, 6, 7, 8, 9, 10] [] [0, 1, 2, 3, 4, 5, 6, 7, 8, 9, 10] (va_runV (As := [.int x1]) (rest := [.ref (a2 0)]) ⟨hx, hb, hml, hown, hts⟩ (c_X2_second l D cI cZ a2 N q2.2 x1 q3.1 q3.2 hq3 H.size) (cwV 1 hts gX2_rebuilt_X2_second rfl rfl rfl (by decide +kernel) ⟨by first | exact Nat.le_of_ble_eq_true rfl | (try dsimp only) <;> omega, by first | exact Nat.le_of_ble_eq_true rfl | (try dsimp only) <;> omega⟩) (pV [0, 1, 2, 3, 4, 5, 6, 7, 8, 9, 10] hP hD hK hN rfl rfl rfl rfl) rfl rfl hl.1 rfl (lv_room (Nat.le_of_ble_eq_true rfl)) dX2_rebuilt_14 ⟨Nat.le_of_ble_eq_true rfl, Nat.le_of_ble_eq_true rfl⟩) hP hD hS hA rfl rfl rfl (by decide) rfl rfl (fun H locs hP hD hS => ?_)
  refine lv_iload_n hx hb dX2_rebuilt_17 rfl (lv_at hl 3 rfl) ?_
  obtain ⟨q4, hq4, h⟩ := ob h
  refine mc_i (ws' := wX2 a2 cI cZ q4.2) (wr := ([] : va_W)) [0, 1, 2, 3, 4, 5, 6, 7, 8, 9, 10] [] [0, 1, 2, 3, 4, 5, 6, 7, 8, 9, 10] (va_runV (As := [.int q3.1, .int x2]) (rest := []) ⟨hx, hb, hml, hown, hts⟩ (hF q3.2 q3.1 x2 q4.1 q4.2 hq4 H.size) (cwV 2 hts gX2_rebuilt_X2_imageWithin rfl rfl rfl (by decide +kernel) ⟨by first | exact Nat.le_of_ble_eq_true rfl | (try dsimp only) <;> omega, by first | exact Nat.le_of_ble_eq_true rfl | (try dsimp only) <;> omega⟩) (pV [0, 1, 2, 3, 4, 5, 6, 7, 8, 9, 10] hP hD hK hN rfl rfl rfl rfl) rfl rfl hl.1 rfl (lv_room (Nat.le_of_ble_eq_true rfl)) dX2_rebuilt_18 ⟨Nat.le_of_ble_eq_true rfl, Nat.le_of_ble_eq_true rfl⟩) hP hD hS hA rfl rfl rfl (by decide) rfl rfl (fun H locs hP hD hS => ?_)
  refine lv_istore (lv' := [(4, .int q4.1), (3, .int q2.1), (0, .ref (a2 0)), (1, .int x1), (2, .int x2)]) hx hb dX2_rebuilt_21 hl (by decide) rfl (fun ls hl => ?_)
  refine lv_iload hx hb dX2_rebuilt_23 (lv_at hl 0 rfl) ?_
  refine lv_iconst (v := (-1)) hx hb dX2_rebuilt_25 rfl ?_
  refine lv_icmp_ne (tgt := 42) hx hb dX2_rebuilt_26 (by decide) (fun hc5 => ?_) (fun hc5 => ?_)
  · rw [if_neg hc5] at h
    exact k_X2_rebuilt_42 C0 N d F hF q4.2 x1 q2.1 q4.1 _ _ _ hP hD hS (lv_sub hl [2, 3, 1, 0] rfl) h
  · rw [if_pos hc5] at h
    refine lv_aload_n hx hb dX2_rebuilt_29 rfl (lv_at hl 2 rfl) ?_
    refine lv_iload_n hx hb dX2_rebuilt_30 rfl (lv_at hl 3 rfl) ?_
    obtain ⟨q6, hq6, h⟩ := ob h
    refine mc_i (ws' := wX2 a2 cI cZ q6.2) (wr := ([] : va_W)) [0, 1, 2, 3, 4, 5, 6, 7, 8, 9, 10] [] [0, 1, 2, 3, 4, 5, 6, 7, 8, 9, 10] (va_runV (As := [.int x1]) (rest := []) ⟨hx, hb, hml, hown, hts⟩ (c_X2_second l D cI cZ a2 N q4.2 x1 q6.1 q6.2 hq6 H.size) (cwV 1 hts gX2_rebuilt_X2_second rfl rfl rfl (by decide +kernel) ⟨by first | exact Nat.le_of_ble_eq_true rfl | (try dsimp only) <;> omega, by first | exact Nat.le_of_ble_eq_true rfl | (try dsimp only) <;> omega⟩) (pV [0, 1, 2, 3, 4, 5, 6, 7, 8, 9, 10] hP hD hK hN rfl rfl rfl rfl) rfl rfl hl.1 rfl (lv_room (Nat.le_of_ble_eq_true rfl)) dX2_rebuilt_31 ⟨Nat.le_of_ble_eq_true rfl, Nat.le_of_ble_eq_true rfl⟩) hP hD hS hA rfl rfl rfl (by decide) rfl rfl (fun H locs hP hD hS => ?_)
    refine lv_iconst (v := (-1)) hx hb dX2_rebuilt_34 rfl ?_
    refine lv_icmp_eq (tgt := 42) hx hb dX2_rebuilt_35 (by decide) (fun hc7 => ?_) (fun hc7 => ?_)
    · rw [if_pos hc7] at h
      exact k_X2_rebuilt_42 C0 N d F hF q6.2 x1 q2.1 q4.1 _ _ _ hP hD hS (lv_sub hl [2, 3, 1, 0] rfl) h
    · rw [if_neg hc7] at h
      refine lv_iconst (v := 1) hx hb dX2_rebuilt_38 rfl ?_
      refine lv_goto (tgt := 43) hx hb dX2_rebuilt_39 (by decide) ?_
      exact k_X2_rebuilt_43 C0 N d F hF q6.2 x1 q2.1 q4.1 1 _ _ _ hP hD hS (lv_sub hl [2, 3, 1, 0] rfl) h

theorem in_X2_imageWithin_X2 : ∀ w ∈ u_ws RX2 TX2 14, w ∈ wsX2_imageWithin := by decide +kernel
def f_X2_imageWithin_9 (N : Nat) (F : St → Int32 → Int32 → Option (Int32 × St)) (y : St) : Option (Int32 × St) := some ((-1), y)
def f_X2_imageWithin_45 (N : Nat) (F : St → Int32 → Int32 → Option (Int32 × St)) (y : St) (x1 : Int32) : Option (Int32 × St) := (f_X4_read N 8000 (y 7) x1).bind (fun q1 => some (q1.1, y))
def f_X2_imageWithin_42 (N : Nat) (F : St → Int32 → Int32 → Option (Int32 × St)) (y : St) (x1 s1 s2 : Int32) : Option (Int32 × St) := (f_X2_setImage N y s1 s2).bind (fun q1 => f_X2_imageWithin_45 N F q1 x1)
def f_X2_imageWithin_step (N : Nat) (F : St → Int32 → Int32 → Option (Int32 × St)) (y : St) (x1 x2 : Int32) : Option (Int32 × St) := if x1 = (-1) then f_X2_imageWithin_9 N F y else if 0 < x2 then (f_X2_hasImage N y x1).bind (fun q3 => if q3.1 = 0 then (f_X2_first N q3.2 x1).bind (fun q5 => if q5.1 = (-1) then f_X2_imageWithin_42 N F q5.2 x1 x1 x1 else (f_X2_rebuilt N F q5.2 x1 (x2 - 1)).bind (fun q7 => f_X2_imageWithin_42 N F q7.2 x1 x1 q7.1)) else f_X2_imageWithin_45 N F q3.2 x1) else f_X2_imageWithin_9 N F y
abbrev KP_X2_imageWithin_9 (p : Program) (l : Launch) (e : Env) (s : State) (m : MethodId) (args : Array Value) (below : List Frame) (meth : Method) (c : Code) (D : va_G) (cI cZ : ClassId) (a2 : Nat → Nat) (d : Nat) (A : Nat → Prop) (r : Int32) (u1 : St) (K : St → Option (Int32 × St)) : Prop := ∀ (y : St) (H : Heap) (locs : List Loc) (ls : Array Slot), va_P D vwCl (wX2 a2 cI cZ y) H → va_D A (wX2 a2 cI cZ y) → va_S A s.heap H locs → lv_has ls 3 [] → K y = some (r, u1) → W p l e ({ frames := 5 * (d + 1) + 1, cells := 0, slots := 0, locals := 200 * (d + 1) } : Room) s m args below meth c H locs 0 0 (QI below args s D cI cZ (wX2 a2 cI cZ) A r u1) (F0 m 9 ls [])
abbrev KP_X2_imageWithin_45 (p : Program) (l : Launch) (e : Env) (s : State) (m : MethodId) (args : Array Value) (below : List Frame) (meth : Method) (c : Code) (D : va_G) (cI cZ : ClassId) (a2 : Nat → Nat) (d : Nat) (A : Nat → Prop) (r : Int32) (u1 : St) (K : St → Int32 → Option (Int32 × St)) : Prop := ∀ (y : St) (x1 : Int32) (H : Heap) (locs : List Loc) (ls : Array Slot), va_P D vwCl (wX2 a2 cI cZ y) H → va_D A (wX2 a2 cI cZ y) → va_S A s.heap H locs → lv_has ls 3 [(0, .ref (a2 0)), (1, .int x1)] → K y x1 = some (r, u1) → W p l e ({ frames := 5 * (d + 1) + 1, cells := 0, slots := 0, locals := 200 * (d + 1) } : Room) s m args below meth c H locs 0 0 (QI below args s D cI cZ (wX2 a2 cI cZ) A r u1) (F0 m 45 ls [])
abbrev KP_X2_imageWithin_42 (p : Program) (l : Launch) (e : Env) (s : State) (m : MethodId) (args : Array Value) (below : List Frame) (meth : Method) (c : Code) (D : va_G) (cI cZ : ClassId) (a2 : Nat → Nat) (d : Nat) (A : Nat → Prop) (r : Int32) (u1 : St) (K : St → Int32 → Int32 → Int32 → Option (Int32 × St)) : Prop := ∀ (y : St) (x1 s1 s2 : Int32) (H : Heap) (locs : List Loc) (ls : Array Slot), va_P D vwCl (wX2 a2 cI cZ y) H → va_D A (wX2 a2 cI cZ y) → va_S A s.heap H locs → lv_has ls 3 [(0, .ref (a2 0)), (1, .int x1)] → K y x1 s1 s2 = some (r, u1) → W p l e ({ frames := 5 * (d + 1) + 1, cells := 0, slots := 0, locals := 200 * (d + 1) } : Room) s m args below meth c H locs 0 0 (QI below args s D cI cZ (wX2 a2 cI cZ) A r u1) (F0 m 42 ls [.int s2, .int s1, .ref (a2 0)])
set_option maxHeartbeats 4000000 in
set_option maxRecDepth 100000 in
theorem k_X2_imageWithin_9 {p : Program} {l : Launch} {e : Env} {s : State} {m : MethodId} {args : Array Value} {below : List Frame} {meth : Method} {c : Code} {D : va_G} {cI cZ : ClassId} {a2 : Nat → Nat} {A : Nat → Prop} {r : Int32} {u1 : St} (C0 : mB p s m args meth c D cI cZ A cX2_imageWithin 3 (some .int) wsX2_imageWithin RX2) (N : Nat) (d : Nat) (F : St → Int32 → Int32 → Option (Int32 × St)) (hF : ∀ (v : St) (z0 z1 : Int32), MI l yX2_imageWithin wsX2_imageWithin ({ frames := 5 * d + 1, cells := 0, slots := 0, locals := 200 * d } : Room) D cI cZ (wX2 a2 cI cZ) [.ref (a2 0), .int z0, .int z1] v (F v z0 z1)) : KP_X2_imageWithin_9 p l e s m args below meth c D cI cZ a2 d A r u1 (f_X2_imageWithin_9 N F) := by
  obtain ⟨hx, hb, hml, hr, hown, hts, hlocks, hA, hK, hN⟩ := id C0
  intro y H locs ls hP hD hS hl h
  unfold f_X2_imageWithin_9 at h
  refine lv_iconst (v := (-1)) hx hb dX2_imageWithin_9 rfl ?_
  obtain ⟨rfl, rfl⟩ := so h
  exact ret_i C0 hP hD hS dX2_imageWithin_10
set_option maxHeartbeats 4000000 in
set_option maxRecDepth 100000 in
theorem k_X2_imageWithin_45 {p : Program} {l : Launch} {e : Env} {s : State} {m : MethodId} {args : Array Value} {below : List Frame} {meth : Method} {c : Code} {D : va_G} {cI cZ : ClassId} {a2 : Nat → Nat} {A : Nat → Prop} {r : Int32} {u1 : St} (C0 : mB p s m args meth c D cI cZ A cX2_imageWithin 3 (some .int) wsX2_imageWithin RX2) (N : Nat) (d : Nat) (F : St → Int32 → Int32 → Option (Int32 × St)) (hF : ∀ (v : St) (z0 z1 : Int32), MI l yX2_imageWithin wsX2_imageWithin ({ frames := 5 * d + 1, cells := 0, slots := 0, locals := 200 * d } : Room) D cI cZ (wX2 a2 cI cZ) [.ref (a2 0), .int z0, .int z1] v (F v z0 z1)) : KP_X2_imageWithin_45 p l e s m args below meth c D cI cZ a2 d A r u1 (f_X2_imageWithin_45 N F) := by
  obtain ⟨hx, hb, hml, hr, hown, hts, hlocks, hA, hK, hN⟩ := id C0
  intro y x1 H locs ls hP hD hS hl h
  unfold f_X2_imageWithin_45 at h
  refine lv_aload_n hx hb dX2_imageWithin_45 rfl (lv_at hl 0 rfl) ?_
  refine va_get (D := D) (ci := 2) (v := .ref (a2 8)) (C := RX2) (T := TX2) (N := 14) hx hb hts in_X2_imageWithin_X2 hown hK hP 0 rfl rfl 7 (by decide) (hts (.fieldLink RX2 33 "TermLoom$TypeTable" "images" "[I") (by decide +kernel)) (fun _ h9 => h9) rfl dX2_imageWithin_46 ?_
  refine lv_iload_n hx hb dX2_imageWithin_49 rfl (lv_at hl 1 rfl) ?_
  obtain ⟨q1, hq1, h⟩ := ob h
  refine mc_i (ws' := wX2 a2 cI cZ y) (wr := ((wX2 a2 cI cZ y).eraseIdx 8)) [8] [0, 1, 2, 3, 4, 5, 6, 7, 9, 10] [0, 1, 2, 3, 4, 5, 6, 7, 10, 8, 9] (va_runSN (As := [.ref (a2 8), .int x1]) (rest := []) ⟨hx, hb, hml, hown, hts⟩ (c_X4_read l D cI cZ (a2 8) 8000 (y 7) N x1 q1.1 q1.2 hq1 H.size) ⟨va_cnB 2 hts gX2_imageWithin_X4_read_n52 rfl rfl rfl (nw_X2_52 hN) (hts (.initialized RX4) (by decide +kernel)) (by decide +kernel) ⟨by first | exact Nat.le_of_ble_eq_true rfl | (try dsimp only) <;> omega, by first | exact Nat.le_of_ble_eq_true rfl | (try dsimp only) <;> omega⟩, hts (.static yX4_read) (by decide +kernel), trivial⟩ (pS [8] hP hD hK hN rfl rfl) rfl rfl hl.1 rfl (lv_room (Nat.le_of_ble_eq_true rfl)) dX2_imageWithin_50 ⟨Nat.le_of_ble_eq_true rfl, Nat.le_of_ble_eq_true rfl⟩) hP hD hS hA rfl rfl rfl (by decide) rfl rfl (fun H locs hP hD hS => ?_)
  obtain ⟨rfl, rfl⟩ := so h
  exact ret_i C0 hP hD hS dX2_imageWithin_53
set_option maxHeartbeats 4000000 in
set_option maxRecDepth 100000 in
theorem k_X2_imageWithin_42 {p : Program} {l : Launch} {e : Env} {s : State} {m : MethodId} {args : Array Value} {below : List Frame} {meth : Method} {c : Code} {D : va_G} {cI cZ : ClassId} {a2 : Nat → Nat} {A : Nat → Prop} {r : Int32} {u1 : St} (C0 : mB p s m args meth c D cI cZ A cX2_imageWithin 3 (some .int) wsX2_imageWithin RX2) (N : Nat) (d : Nat) (F : St → Int32 → Int32 → Option (Int32 × St)) (hF : ∀ (v : St) (z0 z1 : Int32), MI l yX2_imageWithin wsX2_imageWithin ({ frames := 5 * d + 1, cells := 0, slots := 0, locals := 200 * d } : Room) D cI cZ (wX2 a2 cI cZ) [.ref (a2 0), .int z0, .int z1] v (F v z0 z1)) : KP_X2_imageWithin_42 p l e s m args below meth c D cI cZ a2 d A r u1 (f_X2_imageWithin_42 N F) := by
  obtain ⟨hx, hb, hml, hr, hown, hts, hlocks, hA, hK, hN⟩ := id C0
  intro y x1 s1 s2 H locs ls hP hD hS hl h
  unfold f_X2_imageWithin_42 at h
  obtain ⟨q1, hq1, h⟩ := ob h
  refine mc_v (ws' := wX2 a2 cI cZ q1) (wr := ([] : va_W)) [0, 1, 2, 3, 4, 5, 6, 7, 8, 9, 10] [] [0, 1, 2, 3, 4, 5, 6, 7, 8, 9, 10] (va_runV (As := [.int s1, .int s2]) (rest := []) ⟨hx, hb, hml, hown, hts⟩ (c_X2_setImage l D cI cZ a2 N y s1 s2 q1 hq1 H.size) (cwV 2 hts gX2_imageWithin_X2_setImage rfl rfl rfl (by decide +kernel) ⟨by first | exact Nat.le_of_ble_eq_true rfl | (try dsimp only) <;> omega, by first | exact Nat.le_of_ble_eq_true rfl | (try dsimp only) <;> omega⟩) (pV [0, 1, 2, 3, 4, 5, 6, 7, 8, 9, 10] hP hD hK hN rfl rfl rfl rfl) rfl rfl hl.1 rfl (lv_room (Nat.le_of_ble_eq_true rfl)) dX2_imageWithin_42 ⟨Nat.le_of_ble_eq_true rfl, Nat.le_of_ble_eq_true rfl⟩) hP hD hS hA rfl rfl rfl (by decide) rfl rfl (fun H locs hP hD hS => ?_)
  exact k_X2_imageWithin_45 C0 N d F hF q1 x1 _ _ _ hP hD hS (lv_sub hl [0, 1] rfl) h
set_option maxHeartbeats 4000000 in
set_option maxRecDepth 100000 in
theorem c_X2_imageWithin_step (l : Launch) (D : va_G) (cI cZ : ClassId) (a2 : Nat → Nat) (N : Nat) (d : Nat) (F : St → Int32 → Int32 → Option (Int32 × St)) (hF : ∀ (v : St) (z0 z1 : Int32), MI l yX2_imageWithin wsX2_imageWithin ({ frames := 5 * d + 1, cells := 0, slots := 0, locals := 200 * d } : Room) D cI cZ (wX2 a2 cI cZ) [.ref (a2 0), .int z0, .int z1] v (F v z0 z1)) (y : St) (x1 x2 : Int32) : MI l yX2_imageWithin wsX2_imageWithin ({ frames := 5 * (d + 1) + 1, cells := 0, slots := 0, locals := 200 * (d + 1) } : Room) D cI cZ (wX2 a2 cI cZ) [.ref (a2 0), .int x1, .int x2] y (f_X2_imageWithin_step N F y x1 x2) := by
  refine MI.of (cc := cX2_imageWithin) (maxL := 3) (ret := (some .int)) (own := RX2) (by decide) rfl rfl (Nat.le_of_ble_eq_true rfl) ?_
  intro r u1 h p e s m args below meth c A C0 H locs ls hP hD hS hl
  obtain ⟨hx, hb, hml, hr, hown, hts, hlocks, hA, hK, hN⟩ := id C0
  have hl : lv_has ls 3 [(0, .ref (a2 0)), (1, .int x1), (2, .int x2)] := hl
  unfold f_X2_imageWithin_step at h
  refine lv_iload_n hx hb dX2_imageWithin_0 rfl (lv_at hl 1 rfl) ?_
  refine lv_iconst (v := (-1)) hx hb dX2_imageWithin_1 rfl ?_
  refine lv_icmp_eq (tgt := 9) hx hb dX2_imageWithin_2 (by decide) (fun hc1 => ?_) (fun hc1 => ?_)
  · rw [if_pos hc1] at h
    exact k_X2_imageWithin_9 C0 N d F hF y _ _ _ hP hD hS (lv_sub hl [] rfl) h
  · rw [if_neg hc1] at h
    refine lv_iload_n hx hb dX2_imageWithin_5 rfl (lv_at hl 2 rfl) ?_
    refine lv_if_gt (tgt := 11) hx hb dX2_imageWithin_6 (by decide) (fun hc2 => ?_) (fun hc2 => ?_)
    · rw [if_pos hc2] at h
      refine lv_aload_n hx hb dX2_imageWithin_11 rfl (lv_at hl 0 rfl) ?_
      refine lv_iload_n hx hb dX2_imageWithin_12 rfl (lv_at hl 1 rfl) ?_
      obtain ⟨q3, hq3, h⟩ := ob h
      refine mc_i (ws' := wX2 a2 cI cZ q3.2) (wr := ([] : va_W)) [0, 1, 2, 3, 4, 5, 6, 7, 8, 9, 10] [] [0, 1, 2, 3, 4, 5, 6, 7, 8, 9, 10] (va_runV (As := [.int x1]) (rest := []) ⟨hx, hb, hml, hown, hts⟩ (c_X2_hasImage l D cI cZ a2 N y x1 q3.1 q3.2 hq3 H.size) (cwV 1 hts gX2_imageWithin_X2_hasImage rfl rfl rfl (by decide +kernel) ⟨by first | exact Nat.le_of_ble_eq_true rfl | (try dsimp only) <;> omega, by first | exact Nat.le_of_ble_eq_true rfl | (try dsimp only) <;> omega⟩) (pV [0, 1, 2, 3, 4, 5, 6, 7, 8, 9, 10] hP hD hK hN rfl rfl rfl rfl) rfl rfl hl.1 rfl (lv_room (Nat.le_of_ble_eq_true rfl)) dX2_imageWithin_13 ⟨Nat.le_of_ble_eq_true rfl, Nat.le_of_ble_eq_true rfl⟩) hP hD hS hA rfl rfl rfl (by decide) rfl rfl (fun H locs hP hD hS => ?_)
      refine lv_if_ne (tgt := 45) hx hb dX2_imageWithin_16 (by decide) (fun hc4 => ?_) (fun hc4 => ?_)
      · rw [if_neg hc4] at h
        exact k_X2_imageWithin_45 C0 N d F hF q3.2 x1 _ _ _ hP hD hS (lv_sub hl [0, 1] rfl) h
      · rw [if_pos hc4] at h
        refine lv_aload_n hx hb dX2_imageWithin_19 rfl (lv_at hl 0 rfl) ?_
        refine lv_iload_n hx hb dX2_imageWithin_20 rfl (lv_at hl 1 rfl) ?_
        refine lv_aload_n hx hb dX2_imageWithin_21 rfl (lv_at hl 0 rfl) ?_
        refine lv_iload_n hx hb dX2_imageWithin_22 rfl (lv_at hl 1 rfl) ?_
        obtain ⟨q5, hq5, h⟩ := ob h
        refine mc_i (ws' := wX2 a2 cI cZ q5.2) (wr := ([] : va_W)) [0, 1, 2, 3, 4, 5, 6, 7, 8, 9, 10] [] [0, 1, 2, 3, 4, 5, 6, 7, 8, 9, 10] (va_runV (As := [.int x1]) (rest := [.int x1, .ref (a2 0)]) ⟨hx, hb, hml, hown, hts⟩ (c_X2_first l D cI cZ a2 N q3.2 x1 q5.1 q5.2 hq5 H.size) (cwV 1 hts gX2_imageWithin_X2_first rfl rfl rfl (by decide +kernel) ⟨by first | exact Nat.le_of_ble_eq_true rfl | (try dsimp only) <;> omega, by first | exact Nat.le_of_ble_eq_true rfl | (try dsimp only) <;> omega⟩) (pV [0, 1, 2, 3, 4, 5, 6, 7, 8, 9, 10] hP hD hK hN rfl rfl rfl rfl) rfl rfl hl.1 rfl (lv_room (Nat.le_of_ble_eq_true rfl)) dX2_imageWithin_23 ⟨Nat.le_of_ble_eq_true rfl, Nat.le_of_ble_eq_true rfl⟩) hP hD hS hA rfl rfl rfl (by decide) rfl rfl (fun H locs hP hD hS => ?_)
        refine lv_iconst (v := (-1)) hx hb dX2_imageWithin_26 rfl ?_
        refine lv_icmp_ne (tgt := 34) hx hb dX2_imageWithin_27 (by decide) (fun hc6 => ?_) (fun hc6 => ?_)
        · rw [if_neg hc6] at h
          refine lv_aload_n hx hb dX2_imageWithin_34 rfl (lv_at hl 0 rfl) ?_
          refine lv_iload_n hx hb dX2_imageWithin_35 rfl (lv_at hl 1 rfl) ?_
          refine lv_iload_n hx hb dX2_imageWithin_36 rfl (lv_at hl 2 rfl) ?_
          refine lv_iconst (v := 1) hx hb dX2_imageWithin_37 rfl ?_
          refine lv_isub hx hb dX2_imageWithin_38 ?_
          obtain ⟨q7, hq7, h⟩ := ob h
          refine mc_i (ws' := wX2 a2 cI cZ q7.2) (wr := ([] : va_W)) [0, 1, 2, 3, 4, 5, 6, 7, 8, 9, 10] [] [0, 1, 2, 3, 4, 5, 6, 7, 8, 9, 10] (va_runV (As := [.int x1, .int (x2 - 1)]) (rest := [.int x1, .ref (a2 0)]) ⟨hx, hb, hml, hown, hts⟩ (c_X2_rebuilt l D cI cZ a2 N d F hF q5.2 x1 (x2 - 1) q7.1 q7.2 hq7 H.size) (cwV 2 hts gX2_imageWithin_X2_rebuilt rfl rfl rfl (by decide +kernel) ⟨by first | exact Nat.le_of_ble_eq_true rfl | (try dsimp only) <;> omega, by first | exact Nat.le_of_ble_eq_true rfl | (try dsimp only) <;> omega⟩) (pV [0, 1, 2, 3, 4, 5, 6, 7, 8, 9, 10] hP hD hK hN rfl rfl rfl rfl) rfl rfl hl.1 rfl (lv_room (Nat.le_of_ble_eq_true rfl)) dX2_imageWithin_39 ⟨Nat.le_of_ble_eq_true rfl, Nat.le_of_ble_eq_true rfl⟩) hP hD hS hA rfl rfl rfl (by decide) rfl rfl (fun H locs hP hD hS => ?_)
          exact k_X2_imageWithin_42 C0 N d F hF q7.2 x1 x1 q7.1 _ _ _ hP hD hS (lv_sub hl [0, 1] rfl) h
        · rw [if_pos hc6] at h
          refine lv_iload_n hx hb dX2_imageWithin_30 rfl (lv_at hl 1 rfl) ?_
          refine lv_goto (tgt := 42) hx hb dX2_imageWithin_31 (by decide) ?_
          exact k_X2_imageWithin_42 C0 N d F hF q5.2 x1 x1 x1 _ _ _ hP hD hS (lv_sub hl [0, 1] rfl) h
    · rw [if_neg hc2] at h
      exact k_X2_imageWithin_9 C0 N d F hF y _ _ _ hP hD hS (lv_sub hl [] rfl) h
def f_X2_imageWithin (N : Nat) : Nat → St → Int32 → Int32 → Option (Int32 × St)
  | 0, _, _, _ => none
  | d + 1, y, x1, x2 => f_X2_imageWithin_step N (f_X2_imageWithin N d) y x1 x2
set_option maxHeartbeats 4000000 in
set_option maxRecDepth 100000 in
theorem c_X2_imageWithin (l : Launch) (D : va_G) (cI cZ : ClassId) (a2 : Nat → Nat) (N : Nat) : ∀ (d : Nat) (y : St) (x1 x2 : Int32) , MI l yX2_imageWithin wsX2_imageWithin ({ frames := 5 * d + 1, cells := 0, slots := 0, locals := 200 * d } : Room) D cI cZ (wX2 a2 cI cZ) [.ref (a2 0), .int x1, .int x2] y (f_X2_imageWithin N d y x1 x2) := by
  intro d
  induction d with
  | zero =>
    intro y x1 x2 r u1 h
    exact no (show (none : Option (Int32 × St)) = _ from h)
  | succ d ih =>
    intro y x1 x2
    rw [f_X2_imageWithin]
    exact c_X2_imageWithin_step l D cI cZ a2 N d (f_X2_imageWithin N d) ih y x1 x2
