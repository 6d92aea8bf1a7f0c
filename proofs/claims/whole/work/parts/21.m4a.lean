theorem in_X4_constructor_X4 : ∀ w ∈ u_ws RX4 TX4 7, w ∈ wsX4_constructor := by decide +kernel
theorem xw_X4_constructor_48 : ∀ w ∈ (vx_atS RX4 48 "java/lang/IllegalArgumentException" ["java/lang/RuntimeException", "java/lang/Exception"]).filter goodWord, w ∈ wsX4_constructor := by decide +kernel
theorem xw_X4_constructor_55 : ∀ w ∈ (vx_atS RX4 55 "java/lang/IllegalStateException" ["java/lang/RuntimeException", "java/lang/Exception"]).filter goodWord, w ∈ wsX4_constructor := by decide +kernel
def f_X4_constructor_9 (N : Nat) (x y t k b : St) : Option ((Int32 ⊕ Nat) × (St × St × St × St × St)) := some (.inr 0, (x, y, t, k, b))
def f_X4_constructor_35 (N : Nat) (x y t k b : St) : Option ((Int32 ⊕ Nat) × (St × St × St × St × St)) := some (.inr 1, (x, y, t, k, b))
def f_X4_constructor (N : Nat) (x y t k b : St) (x1 : Int32) : Option ((Int32 ⊕ Nat) × (St × St × St × St × St)) := if x1 < 0 then f_X4_constructor_9 N x y t k b else if x1 ≤ 2 then if (x 5 0) < 0 then f_X4_constructor_35 N x y t k b else if (x 5 0) < 40 then if (x 5 0) < 0 ∨ 40 ≤ ((x 5 0)).toNatClampNeg then none else bnd (up2 x 3 ((x 5 0)).toNatClampNeg x1) (fun x5 => bnd (up2 x5 5 0 ((x5 5 0) + 1)) (fun x6 => some (.inl ((x6 5 0) - 1), (x6, y, t, k, b)))) else f_X4_constructor_35 N x y t k b else f_X4_constructor_9 N x y t k b
abbrev KP_X4_constructor_9 (p : Program) (l : Launch) (e : Env) (s : State) (m : MethodId) (args : Array Value) (below : List Frame) (meth : Method) (c : Code) (D : va_G) (cI cZ : ClassId) (a4 a2 a1 a3 a0 : Nat → Nat) (A : Nat → Prop) (res : Int32 ⊕ Nat) (u1 : St × St × St × St × St) (K : St → St → St → St → St → Option ((Int32 ⊕ Nat) × (St × St × St × St × St))) : Prop := ∀ (x y t k b : St) (H : Heap) (locs : List Loc) (ls : Array Slot), va_P D vwCl (wX4 a4 a2 a1 a3 a0 cI cZ (x, y, t, k, b)) H → va_D A (wX4 a4 a2 a1 a3 a0 cI cZ (x, y, t, k, b)) → va_S A s.heap H locs → lv_has ls 2 [] → K x y t k b = some (res, u1) → W p l e ({ frames := 6, cells := 1, slots := 6, locals := 82 } : Room) s m args below meth c H locs 0 0 (vx_MQ below (xI D cI cZ (wX4 a4 a2 a1 a3 a0 cI cZ) A res u1) (xX D cI cZ (wX4 a4 a2 a1 a3 a0 cI cZ) A res u1) args s 1 6 A) (F0 m 9 ls [])
abbrev KP_X4_constructor_35 (p : Program) (l : Launch) (e : Env) (s : State) (m : MethodId) (args : Array Value) (below : List Frame) (meth : Method) (c : Code) (D : va_G) (cI cZ : ClassId) (a4 a2 a1 a3 a0 : Nat → Nat) (A : Nat → Prop) (res : Int32 ⊕ Nat) (u1 : St × St × St × St × St) (K : St → St → St → St → St → Option ((Int32 ⊕ Nat) × (St × St × St × St × St))) : Prop := ∀ (x y t k b : St) (H : Heap) (locs : List Loc) (ls : Array Slot), va_P D vwCl (wX4 a4 a2 a1 a3 a0 cI cZ (x, y, t, k, b)) H → va_D A (wX4 a4 a2 a1 a3 a0 cI cZ (x, y, t, k, b)) → va_S A s.heap H locs → lv_has ls 2 [] → K x y t k b = some (res, u1) → W p l e ({ frames := 6, cells := 1, slots := 6, locals := 82 } : Room) s m args below meth c H locs 0 0 (vx_MQ below (xI D cI cZ (wX4 a4 a2 a1 a3 a0 cI cZ) A res u1) (xX D cI cZ (wX4 a4 a2 a1 a3 a0 cI cZ) A res u1) args s 1 6 A) (F0 m 35 ls [])
set_option maxHeartbeats 4000000 in
set_option maxRecDepth 100000 in
theorem k_X4_constructor_9 {p : Program} {l : Launch} {e : Env} {s : State} {m : MethodId} {args : Array Value} {below : List Frame} {meth : Method} {c : Code} {D : va_G} {cI cZ : ClassId} {sa : Nat → Nat} {a4 a2 a1 a3 a0 : Nat → Nat} {A : Nat → Prop} {res : Int32 ⊕ Nat} {u1 : St × St × St × St × St} (C0 : mX l p s m args meth c D cI cZ sa A cX4_constructor 2 (some .int) wsX4_constructor RX4) (N : Nat) : KP_X4_constructor_9 p l e s m args below meth c D cI cZ a4 a2 a1 a3 a0 A res u1 (f_X4_constructor_9 N) := by
  obtain ⟨⟨hx, hb, hml, hr, hown, hts, hlocks, hA, hK, hN⟩, hX, hlt, hT⟩ := id C0
  intro x y t k b H locs ls hP hD hS hl h
  unfold f_X4_constructor_9 at h
  obtain ⟨rfl, rfl⟩ := so h
  exact x_throw (is := 46) (text := "a constructor takes 0 to 2 types") (cls := "java/lang/IllegalArgumentException") (lv := []) C0 rfl (by decide +kernel) (by decide +kernel) xw_X4_constructor_48 (by decide +kernel) (by decide +kernel) (by decide +kernel) (by decide +kernel) hP hD hS hl dX4_constructor_9 dX4_constructor_12 dX4_constructor_13 dX4_constructor_15 dX4_constructor_18 (Nat.le_of_ble_eq_true rfl) (Nat.le_of_ble_eq_true rfl) (Nat.le_of_ble_eq_true rfl) (Nat.le_of_ble_eq_true rfl) (by decide) (by decide)
set_option maxHeartbeats 4000000 in
set_option maxRecDepth 100000 in
theorem k_X4_constructor_35 {p : Program} {l : Launch} {e : Env} {s : State} {m : MethodId} {args : Array Value} {below : List Frame} {meth : Method} {c : Code} {D : va_G} {cI cZ : ClassId} {sa : Nat → Nat} {a4 a2 a1 a3 a0 : Nat → Nat} {A : Nat → Prop} {res : Int32 ⊕ Nat} {u1 : St × St × St × St × St} (C0 : mX l p s m args meth c D cI cZ sa A cX4_constructor 2 (some .int) wsX4_constructor RX4) (N : Nat) : KP_X4_constructor_35 p l e s m args below meth c D cI cZ a4 a2 a1 a3 a0 A res u1 (f_X4_constructor_35 N) := by
  obtain ⟨⟨hx, hb, hml, hr, hown, hts, hlocks, hA, hK, hN⟩, hX, hlt, hT⟩ := id C0
  intro x y t k b H locs ls hP hD hS hl h
  unfold f_X4_constructor_35 at h
  obtain ⟨rfl, rfl⟩ := so h
  exact x_throw (is := 53) (text := "there are 40 constructors") (cls := "java/lang/IllegalStateException") (lv := []) C0 rfl (by decide +kernel) (by decide +kernel) xw_X4_constructor_55 (by decide +kernel) (by decide +kernel) (by decide +kernel) (by decide +kernel) hP hD hS hl dX4_constructor_35 dX4_constructor_38 dX4_constructor_39 dX4_constructor_41 dX4_constructor_44 (Nat.le_of_ble_eq_true rfl) (Nat.le_of_ble_eq_true rfl) (Nat.le_of_ble_eq_true rfl) (Nat.le_of_ble_eq_true rfl) (by decide) (by decide)
set_option maxHeartbeats 4000000 in
set_option maxRecDepth 100000 in
theorem c_X4_constructor (l : Launch) (hlt : l.stackTraces = false) (D : va_G) (cI cZ : ClassId) (sa : Nat → Nat) (a4 a2 a1 a3 a0 : Nat → Nat) (N : Nat) (x y t k b : St) (x1 : Int32) : XI l yX4_constructor wsX4_constructor ({ frames := 6, cells := 1, slots := 6, locals := 82 } : Room) D cI cZ sa (wX4 a4 a2 a1 a3 a0 cI cZ) [.ref (a4 0), .int x1] (x, y, t, k, b) 1 6 (f_X4_constructor N x y t k b x1) := by
  refine XI.of (cc := cX4_constructor) (maxL := 2) (ret := (some .int)) (own := RX4) hlt (by decide) rfl rfl (Nat.le_of_ble_eq_true rfl) ?_
  intro res u1 h p e s m args below meth c A C0 H locs ls hP hD hS hl
  obtain ⟨⟨hx, hb, hml, hr, hown, hts, hlocks, hA, hK, hN⟩, hX, hlt, hT⟩ := id C0
  have hl : lv_has ls 2 [(0, .ref (a4 0)), (1, .int x1)] := hl
  unfold f_X4_constructor at h
  refine lv_iload_n hx hb dX4_constructor_0 rfl (lv_at hl 1 rfl) ?_
  refine lv_if_lt (tgt := 9) hx hb dX4_constructor_1 (by decide) (fun hc1 => ?_) (fun hc1 => ?_)
  · rw [if_pos hc1] at h
    exact k_X4_constructor_9 C0 N x y t k b _ _ _ hP hD hS (lv_sub hl [] rfl) h
  · rw [if_neg hc1] at h
    refine lv_iload_n hx hb dX4_constructor_4 rfl (lv_at hl 1 rfl) ?_
    refine lv_iconst (v := 2) hx hb dX4_constructor_5 rfl ?_
    refine lv_icmp_le (tgt := 19) hx hb dX4_constructor_6 (by decide) (fun hc2 => ?_) (fun hc2 => ?_)
    · rw [if_pos hc2] at h
      refine lv_aload_n hx hb dX4_constructor_19 rfl (lv_at hl 0 rfl) ?_
      refine va_get (D := D) (ci := 4) (v := .int (x 5 0)) (C := RX4) (T := TX4) (N := 7) hx hb hts in_X4_constructor_X4 hown hK hP 0 rfl rfl 5 (by decide) (hts (.fieldLink RX4 37 "TermLoom" "constructors" "I") (by decide +kernel)) (fun _ h9 => h9) rfl dX4_constructor_20 ?_
      refine lv_if_lt (tgt := 35) hx hb dX4_constructor_23 (by decide) (fun hc3 => ?_) (fun hc3 => ?_)
      · rw [if_pos hc3] at h
        exact k_X4_constructor_35 C0 N x y t k b _ _ _ hP hD hS (lv_sub hl [] rfl) h
      · rw [if_neg hc3] at h
        refine lv_aload_n hx hb dX4_constructor_26 rfl (lv_at hl 0 rfl) ?_
        refine va_get (D := D) (ci := 4) (v := .int (x 5 0)) (C := RX4) (T := TX4) (N := 7) hx hb hts in_X4_constructor_X4 hown hK hP 0 rfl rfl 5 (by decide) (hts (.fieldLink RX4 37 "TermLoom" "constructors" "I") (by decide +kernel)) (fun _ h9 => h9) rfl dX4_constructor_27 ?_
        refine lv_bipush (v := 40) hx hb dX4_constructor_30 rfl ?_
        refine lv_icmp_lt (tgt := 45) hx hb dX4_constructor_32 (by decide) (fun hc4 => ?_) (fun hc4 => ?_)
        · rw [if_pos hc4] at h
          refine lv_aload_n hx hb dX4_constructor_45 rfl (lv_at hl 0 rfl) ?_
          refine va_get (D := D) (ci := 4) (v := .ref (a4 4)) (C := RX4) (T := TX4) (N := 7) hx hb hts in_X4_constructor_X4 hown hK hP 0 rfl rfl 3 (by decide) (hts (.fieldLink RX4 30 "TermLoom" "takes" "[I") (by decide +kernel)) (fun _ h9 => h9) rfl dX4_constructor_46 ?_
          refine lv_aload_n hx hb dX4_constructor_49 rfl (lv_at hl 0 rfl) ?_
          refine va_get (D := D) (ci := 4) (v := .int (x 5 0)) (C := RX4) (T := TX4) (N := 7) hx hb hts in_X4_constructor_X4 hown hK hP 0 rfl rfl 5 (by decide) (hts (.fieldLink RX4 37 "TermLoom" "constructors" "I") (by decide +kernel)) (fun _ h9 => h9) rfl dX4_constructor_50 ?_
          refine lv_iload_n hx hb dX4_constructor_53 rfl (lv_at hl 1 rfl) ?_
          by_cases hi : (x 5 0) < 0 ∨ 40 ≤ ((x 5 0)).toNatClampNeg
          · rw [if_pos hi] at h; exact no h
          rw [if_neg hi] at h
          refine va_iast (f := (x 3)) hx hb hK hP hD hS 1 0 rfl rfl (i := (x 5 0)) (x := x1) hi dX4_constructor_54 (fun H locs hP hD hS => ?_)
          obtain ⟨x5, ex5, h⟩ := bn h
          have hP : va_P D vwCl (wX4 a4 a2 a1 a3 a0 cI cZ (x5, y, t, k, b)) H := by rw [ex5]; exact hP
          have hD : va_D A (wX4 a4 a2 a1 a3 a0 cI cZ (x5, y, t, k, b)) := by rw [ex5]; exact hD
          refine lv_aload_n hx hb dX4_constructor_55 rfl (lv_at hl 0 rfl) ?_
          refine lv_dup hx hb dX4_constructor_56 rfl ?_
          refine va_get (D := D) (ci := 4) (v := .int (x5 5 0)) (C := RX4) (T := TX4) (N := 7) hx hb hts in_X4_constructor_X4 hown hK hP 0 rfl rfl 5 (by decide) (hts (.fieldLink RX4 37 "TermLoom" "constructors" "I") (by decide +kernel)) (fun _ h9 => h9) rfl dX4_constructor_57 ?_
          refine lv_iconst (v := 1) hx hb dX4_constructor_60 rfl ?_
          refine lv_iadd hx hb dX4_constructor_61 ?_
          refine va_put (D := D) (ci := 4) (v := .int ((x5 5 0) + 1)) (ty := .int) (C := RX4) (T := TX4) (N := 7) hx hb hts in_X4_constructor_X4 tyX4 tyX4_ok nmX4 hown hK hP hD hS 0 rfl rfl 5 (by decide) (hts (.fieldLink RX4 37 "TermLoom" "constructors" "I") (by decide +kernel)) (fun _ h9 => h9) rfl (by decide +kernel) rfl rfl (Nat.le_of_ble_eq_true rfl) dX4_constructor_62 (fun H locs hP hD hS => ?_)
          obtain ⟨x6, ex6, h⟩ := bn h
          have hP : va_P D vwCl (wX4 a4 a2 a1 a3 a0 cI cZ (x6, y, t, k, b)) H := by rw [ex6]; exact hP
          have hD : va_D A (wX4 a4 a2 a1 a3 a0 cI cZ (x6, y, t, k, b)) := by rw [ex6]; exact hD
          refine lv_aload_n hx hb dX4_constructor_65 rfl (lv_at hl 0 rfl) ?_
          refine va_get (D := D) (ci := 4) (v := .int (x6 5 0)) (C := RX4) (T := TX4) (N := 7) hx hb hts in_X4_constructor_X4 hown hK hP 0 rfl rfl 5 (by decide) (hts (.fieldLink RX4 37 "TermLoom" "constructors" "I") (by decide +kernel)) (fun _ h9 => h9) rfl dX4_constructor_66 ?_
          refine lv_iconst (v := 1) hx hb dX4_constructor_69 rfl ?_
          refine lv_isub hx hb dX4_constructor_70 ?_
          obtain ⟨rfl, rfl⟩ := so h
          exact xret_i C0 hP hD hS dX4_constructor_71 (by decide) (by decide)
        · rw [if_neg hc4] at h
          exact k_X4_constructor_35 C0 N x y t k b _ _ _ hP hD hS (lv_sub hl [] rfl) h
    · rw [if_neg hc2] at h
      exact k_X4_constructor_9 C0 N x y t k b _ _ _ hP hD hS (lv_sub hl [] rfl) h

theorem xw_X4_requireNumber_48 : ∀ w ∈ (vx_atS RX4 48 "java/lang/IllegalArgumentException" ["java/lang/RuntimeException", "java/lang/Exception"]).filter goodWord, w ∈ wsX4_requireNumber := by decide +kernel
def f_X4_requireNumber_11 (N : Nat) : Option ((Unit ⊕ Nat) × Unit) := some (.inr 0, ())
def f_X4_requireNumber (N : Nat) (x0 : Int32) : Option ((Unit ⊕ Nat) × Unit) := if x0 < 0 then f_X4_requireNumber_11 N else if x0 < 1000 then some (.inl (), ()) else f_X4_requireNumber_11 N
abbrev KP_X4_requireNumber_11 (p : Program) (l : Launch) (e : Env) (s : State) (m : MethodId) (args : Array Value) (below : List Frame) (meth : Method) (c : Code) (D : va_G) (cI cZ : ClassId)  (A : Nat → Prop) (res : Unit ⊕ Nat) (u1 : Unit) (K : Option ((Unit ⊕ Nat) × Unit)) : Prop := ∀ (H : Heap) (locs : List Loc) (ls : Array Slot), va_P D vwCl (wNo ()) H → va_D A (wNo ()) → va_S A s.heap H locs → lv_has ls 1 [] → K = some (res, u1) → W p l e ({ frames := 6, cells := 1, slots := 6, locals := 82 } : Room) s m args below meth c H locs 0 0 (vx_MQ below (xV D cI cZ (wNo) A res u1) (xX D cI cZ (wNo) A res u1) args s 1 6 A) (F0 m 11 ls [])
set_option maxHeartbeats 4000000 in
set_option maxRecDepth 100000 in
theorem k_X4_requireNumber_11 {p : Program} {l : Launch} {e : Env} {s : State} {m : MethodId} {args : Array Value} {below : List Frame} {meth : Method} {c : Code} {D : va_G} {cI cZ : ClassId} {sa : Nat → Nat}  {A : Nat → Prop} {res : Unit ⊕ Nat} {u1 : Unit} (C0 : mX l p s m args meth c D cI cZ sa A cX4_requireNumber 1 none wsX4_requireNumber RX4) (N : Nat) : KP_X4_requireNumber_11 p l e s m args below meth c D cI cZ  A res u1 (f_X4_requireNumber_11 N) := by
  obtain ⟨⟨hx, hb, hml, hr, hown, hts, hlocks, hA, hK, hN⟩, hX, hlt, hT⟩ := id C0
  intro H locs ls hP hD hS hl h
  unfold f_X4_requireNumber_11 at h
  obtain ⟨rfl, rfl⟩ := so h
  exact x_throwW (is := 260) (text := "a variable's number is 0 to 999") (cls := "java/lang/IllegalArgumentException") (lv := []) C0 rfl (by decide +kernel) (by decide +kernel) xw_X4_requireNumber_48 (by decide +kernel) (by decide +kernel) (by decide +kernel) (by decide +kernel) hP hD hS hl dX4_requireNumber_11 dX4_requireNumber_14 dX4_requireNumber_15 dX4_requireNumber_18 dX4_requireNumber_21 (Nat.le_of_ble_eq_true rfl) (Nat.le_of_ble_eq_true rfl) (Nat.le_of_ble_eq_true rfl) (Nat.le_of_ble_eq_true rfl) (by decide) (by decide)
set_option maxHeartbeats 4000000 in
set_option maxRecDepth 100000 in
theorem c_X4_requireNumber (l : Launch) (hlt : l.stackTraces = false) (D : va_G) (cI cZ : ClassId) (sa : Nat → Nat)  (N : Nat) (x0 : Int32) : XV l yX4_requireNumber wsX4_requireNumber ({ frames := 6, cells := 1, slots := 6, locals := 82 } : Room) D cI cZ sa (wNo) [.int x0] () 1 6 (f_X4_requireNumber N x0) := by
  refine XV.of (cc := cX4_requireNumber) (maxL := 1) (ret := none) (own := RX4) hlt (by decide) rfl rfl (Nat.le_of_ble_eq_true rfl) ?_
  intro res u1 h p e s m args below meth c A C0 H locs ls hP hD hS hl
  obtain ⟨⟨hx, hb, hml, hr, hown, hts, hlocks, hA, hK, hN⟩, hX, hlt, hT⟩ := id C0
  have hl : lv_has ls 1 [(0, .int x0)] := hl
  unfold f_X4_requireNumber at h
  refine lv_iload_n hx hb dX4_requireNumber_0 rfl (lv_at hl 0 rfl) ?_
  refine lv_if_lt (tgt := 11) hx hb dX4_requireNumber_1 (by decide) (fun hc1 => ?_) (fun hc1 => ?_)
  · rw [if_pos hc1] at h
    exact k_X4_requireNumber_11 C0 N _ _ _ hP hD hS (lv_sub hl [] rfl) h
  · rw [if_neg hc1] at h
    refine lv_iload_n hx hb dX4_requireNumber_4 rfl (lv_at hl 0 rfl) ?_
    refine lv_sipush (v := 1000) hx hb dX4_requireNumber_5 rfl ?_
    refine lv_icmp_lt (tgt := 22) hx hb dX4_requireNumber_8 (by decide) (fun hc2 => ?_) (fun hc2 => ?_)
    · rw [if_pos hc2] at h
      obtain ⟨rfl, rfl⟩ := so h
      exact xret_v C0 hP hD hS dX4_requireNumber_22 (by decide) (by decide)
    · rw [if_neg hc2] at h
      exact k_X4_requireNumber_11 C0 N _ _ _ hP hD hS (lv_sub hl [] rfl) h

theorem in_X4_settled_X4 : ∀ w ∈ u_ws RX4 TX4 7, w ∈ wsX4_settled := by decide +kernel
theorem xw_X4_settled_55 : ∀ w ∈ (vx_atS RX4 55 "java/lang/IllegalStateException" ["java/lang/RuntimeException", "java/lang/Exception"]).filter goodWord, w ∈ wsX4_settled := by decide +kernel
def f_X4_settled (N : Nat) (x y t k b : St) (x1 x2 : Int32) : Option ((Int32 ⊕ Nat) × (St × St × St × St × St)) := if x1 = (-1) then (f_X2_forgetFrom N y x2).bind (fun q2 => some (.inr 1, (x, q2, t, k, b))) else some (.inl x1, (x, y, t, k, b))
set_option maxHeartbeats 4000000 in
set_option maxRecDepth 100000 in
theorem c_X4_settled (l : Launch) (hlt : l.stackTraces = false) (D : va_G) (cI cZ : ClassId) (sa : Nat → Nat) (a4 a2 a1 a3 a0 : Nat → Nat) (N : Nat) (x y t k b : St) (x1 x2 : Int32) : XI l yX4_settled wsX4_settled ({ frames := 6, cells := 1, slots := 6, locals := 82 } : Room) D cI cZ sa (wX4 a4 a2 a1 a3 a0 cI cZ) [.ref (a4 0), .int x1, .int x2] (x, y, t, k, b) 1 6 (f_X4_settled N x y t k b x1 x2) := by
  refine XI.of (cc := cX4_settled) (maxL := 3) (ret := (some .int)) (own := RX4) hlt (by decide) rfl rfl (Nat.le_of_ble_eq_true rfl) ?_
  intro res u1 h p e s m args below meth c A C0 H locs ls hP hD hS hl
  obtain ⟨⟨hx, hb, hml, hr, hown, hts, hlocks, hA, hK, hN⟩, hX, hlt, hT⟩ := id C0
  have hl : lv_has ls 3 [(0, .ref (a4 0)), (1, .int x1), (2, .int x2)] := hl
  unfold f_X4_settled at h
  refine lv_iload_n hx hb dX4_settled_0 rfl (lv_at hl 1 rfl) ?_
  refine lv_iconst (v := (-1)) hx hb dX4_settled_1 rfl ?_
  refine lv_icmp_ne (tgt := 23) hx hb dX4_settled_2 (by decide) (fun hc1 => ?_) (fun hc1 => ?_)
  · rw [if_neg hc1] at h
    refine lv_iload_n hx hb dX4_settled_23 rfl (lv_at hl 1 rfl) ?_
    obtain ⟨rfl, rfl⟩ := so h
    exact xret_i C0 hP hD hS dX4_settled_24 (by decide) (by decide)
  · rw [if_pos hc1] at h
    refine lv_aload_n hx hb dX4_settled_5 rfl (lv_at hl 0 rfl) ?_
    refine va_get (D := D) (ci := 4) (v := .ref (a2 0)) (C := RX4) (T := TX4) (N := 7) hx hb hts in_X4_settled_X4 hown hK hP 0 rfl rfl 0 (by decide) (hts (.fieldLink RX4 10 "TermLoom" "types" "LTermLoom$TypeTable;") (by decide +kernel)) (fun _ h9 => h9) rfl dX4_settled_6 ?_
    refine lv_iload_n hx hb dX4_settled_9 rfl (lv_at hl 2 rfl) ?_
    obtain ⟨q2, hq2, h⟩ := ob h
    refine mg_v (ws' := wX4 a4 a2 a1 a3 a0 cI cZ (x, q2, t, k, b)) (wr := ((wX4o a4 a2 a1 a0 cI cZ x) ++ (wX1o a1 a3 cI cZ t) ++ (wX3o a3 cI cZ k) ++ (wX0o a0 cI cZ b) : va_W)) [3, 4, 5, 6, 7, 8, 9, 10, 11, 12, 13] [0, 1, 2, 14, 15, 16, 17, 18, 19, 20, 21, 22, 23, 24, 25, 26, 27, 28] [0, 1, 2, 18, 19, 20, 21, 22, 23, 24, 25, 26, 27, 28, 3, 4, 5, 6, 7, 8, 9, 10, 11, 12, 13, 14, 15, 16, 17] (va_runV (As := [.int x2]) (rest := []) ⟨hx, hb, hml, hown, hts⟩ (c_X2_forgetFrom l D cI cZ a2 N y x2 q2 hq2 H.size) (cwV 1 hts gX4_settled_X2_forgetFrom rfl rfl rfl (by decide +kernel) ⟨Nat.le_of_ble_eq_true rfl, Nat.le_of_ble_eq_true rfl⟩) (pV [3, 4, 5, 6, 7, 8, 9, 10, 11, 12, 13] hP hD hK hN rfl rfl rfl rfl) rfl rfl hl.1 rfl (lv_room (Nat.le_of_ble_eq_true rfl)) dX4_settled_10 ⟨Nat.le_of_ble_eq_true rfl, Nat.le_of_ble_eq_true rfl⟩) hP hD hS hA rfl rfl rfl (by decide) rfl rfl (fun H locs hP hD hS => ?_)
    obtain ⟨rfl, rfl⟩ := so h
    exact x_throw (is := 245) (text := "too many symbols, too high, or too many together") (cls := "java/lang/IllegalStateException") (lv := [(0, .ref (a4 0)), (1, .int x1), (2, .int x2)]) C0 rfl (by decide +kernel) (by decide +kernel) xw_X4_settled_55 (by decide +kernel) (by decide +kernel) (by decide +kernel) (by decide +kernel) hP hD hS hl dX4_settled_13 dX4_settled_16 dX4_settled_17 dX4_settled_19 dX4_settled_22 (Nat.le_of_ble_eq_true rfl) (Nat.le_of_ble_eq_true rfl) (Nat.le_of_ble_eq_true rfl) (Nat.le_of_ble_eq_true rfl) (by decide) (by decide)

theorem in_X4_typeVariable_X4 : ∀ w ∈ u_ws RX4 TX4 7, w ∈ wsX4_typeVariable := by decide +kernel
def f_X4_typeVariable (N : Nat) (x y t k b : St) (x1 : Int32) : Option ((Int32 ⊕ Nat) × (St × St × St × St × St)) := (f_X4_requireNumber N x1).bind (fun q1 => ex q1.1 (x, y, t, k, b) (fun r2 => (f_X2_count N y).bind (fun q3 => (f_X4_headOfVariable N x1).bind (fun q4 => (f_X2_made N q3.2 q4.1 (-1) (-1)).bind (fun q5 => (f_X2_keep N q5.2 q5.1).bind (fun q6 => (f_X4_settled N x q6.2 t k b q6.1 q3.1).bind (fun q7 => ex q7.1 (q7.2.1, q7.2.2.1, q7.2.2.2.1, q7.2.2.2.2.1, q7.2.2.2.2.2) (fun r8 => some (.inl r8, (q7.2.1, q7.2.2.1, q7.2.2.2.1, q7.2.2.2.2.1, q7.2.2.2.2.2))))))))))
set_option maxHeartbeats 4000000 in
set_option maxRecDepth 100000 in
theorem c_X4_typeVariable (l : Launch) (hlt : l.stackTraces = false) (D : va_G) (cI cZ : ClassId) (sa : Nat → Nat) (a4 a2 a1 a3 a0 : Nat → Nat) (N : Nat) (x y t k b : St) (x1 : Int32) : XI l yX4_typeVariable wsX4_typeVariable ({ frames := 7, cells := 2, slots := 12, locals := 104 } : Room) D cI cZ sa (wX4 a4 a2 a1 a3 a0 cI cZ) [.ref (a4 0), .int x1] (x, y, t, k, b) 2 12 (f_X4_typeVariable N x y t k b x1) := by
  refine XI.of (cc := cX4_typeVariable) (maxL := 3) (ret := (some .int)) (own := RX4) hlt (by decide) rfl rfl (Nat.le_of_ble_eq_true rfl) ?_
  intro res u1 h p e s m args below meth c A C0 H locs ls hP hD hS hl
  obtain ⟨⟨hx, hb, hml, hr, hown, hts, hlocks, hA, hK, hN⟩, hX, hlt, hT⟩ := id C0
  have hl : lv_has ls 3 [(0, .ref (a4 0)), (1, .int x1)] := hl
  unfold f_X4_typeVariable at h
  refine lv_iload_n hx hb dX4_typeVariable_0 rfl (lv_at hl 1 rfl) ?_
  obtain ⟨q1, hq1, h⟩ := ob h
  refine mx_v (uo := (x, y, t, k, b)) (wr := (wX4 a4 a2 a1 a3 a0 cI cZ (x, y, t, k, b))) [] [0, 1, 2, 3, 4, 5, 6, 7, 8, 9, 10, 11, 12, 13, 14, 15, 16, 17, 18, 19, 20, 21, 22, 23, 24, 25, 26, 27, 28] [0, 1, 2, 3, 4, 5, 6, 7, 8, 9, 10, 11, 12, 13, 14, 15, 16, 17, 18, 19, 20, 21, 22, 23, 24, 25, 26, 27, 28] (vx_runS (As := [.int x1]) (rest := []) ⟨hx, hb, hml, hown, hts⟩ (c_X4_requireNumber l hlt D cI cZ sa N x1 q1.1 q1.2 hq1 H.size) (va_cwS 1 hts gX4_typeVariable_X4_requireNumber rfl rfl rfl (by decide +kernel) ⟨Nat.le_of_ble_eq_true rfl, Nat.le_of_ble_eq_true rfl⟩) (pXS [] hP hD hS hA hK hN hX rfl rfl) rfl rfl hl.1 rfl (lv_room (Nat.le_of_ble_eq_true rfl)) dX4_typeVariable_1 ⟨Nat.le_of_ble_eq_true rfl, Nat.le_of_ble_eq_true rfl⟩) hT hlocks hK hP hD hS hA rfl rfl rfl (by decide) rfl rfl (by decide) (by decide) (fun k9 hk9 => by rw [hk9] at h; exact h) (fun r2 hr9 H locs hP hD hS => ?_)
  rw [hr9, ex_inl] at h
  refine lv_aload_n hx hb dX4_typeVariable_4 rfl (lv_at hl 0 rfl) ?_
  refine va_get (D := D) (ci := 4) (v := .ref (a2 0)) (C := RX4) (T := TX4) (N := 7) hx hb hts in_X4_typeVariable_X4 hown hK hP 0 rfl rfl 0 (by decide) (hts (.fieldLink RX4 10 "TermLoom" "types" "LTermLoom$TypeTable;") (by decide +kernel)) (fun _ h9 => h9) rfl dX4_typeVariable_5 ?_
  obtain ⟨q3, hq3, h⟩ := ob h
  refine mg_i (ws' := wX4 a4 a2 a1 a3 a0 cI cZ (x, q3.2, t, k, b)) (wr := ((wX4o a4 a2 a1 a0 cI cZ x) ++ (wX1o a1 a3 cI cZ t) ++ (wX3o a3 cI cZ k) ++ (wX0o a0 cI cZ b) : va_W)) [3, 4, 5, 6, 7, 8, 9, 10, 11, 12, 13] [0, 1, 2, 14, 15, 16, 17, 18, 19, 20, 21, 22, 23, 24, 25, 26, 27, 28] [0, 1, 2, 18, 19, 20, 21, 22, 23, 24, 25, 26, 27, 28, 3, 4, 5, 6, 7, 8, 9, 10, 11, 12, 13, 14, 15, 16, 17] (va_runV (As := []) (rest := []) ⟨hx, hb, hml, hown, hts⟩ (c_X2_count l D cI cZ a2 N y q3.1 q3.2 hq3 H.size) (cwV 0 hts gX4_typeVariable_X2_count rfl rfl rfl (by decide +kernel) ⟨Nat.le_of_ble_eq_true rfl, Nat.le_of_ble_eq_true rfl⟩) (pV [3, 4, 5, 6, 7, 8, 9, 10, 11, 12, 13] hP hD hK hN rfl rfl rfl rfl) rfl rfl hl.1 rfl (lv_room (Nat.le_of_ble_eq_true rfl)) dX4_typeVariable_8 ⟨Nat.le_of_ble_eq_true rfl, Nat.le_of_ble_eq_true rfl⟩) hP hD hS hA rfl rfl rfl (by decide) rfl rfl (fun H locs hP hD hS => ?_)
  refine lv_istore_n (lv' := [(2, .int q3.1), (0, .ref (a4 0)), (1, .int x1)]) hx hb dX4_typeVariable_11 rfl hl (by decide) rfl (fun ls hl => ?_)
  refine lv_aload_n hx hb dX4_typeVariable_12 rfl (lv_at hl 1 rfl) ?_
  refine lv_aload_n hx hb dX4_typeVariable_13 rfl (lv_at hl 1 rfl) ?_
  refine va_get (D := D) (ci := 4) (v := .ref (a2 0)) (C := RX4) (T := TX4) (N := 7) hx hb hts in_X4_typeVariable_X4 hown hK hP 0 rfl rfl 0 (by decide) (hts (.fieldLink RX4 10 "TermLoom" "types" "LTermLoom$TypeTable;") (by decide +kernel)) (fun _ h9 => h9) rfl dX4_typeVariable_14 ?_
  refine lv_aload_n hx hb dX4_typeVariable_17 rfl (lv_at hl 1 rfl) ?_
  refine va_get (D := D) (ci := 4) (v := .ref (a2 0)) (C := RX4) (T := TX4) (N := 7) hx hb hts in_X4_typeVariable_X4 hown hK hP 0 rfl rfl 0 (by decide) (hts (.fieldLink RX4 10 "TermLoom" "types" "LTermLoom$TypeTable;") (by decide +kernel)) (fun _ h9 => h9) rfl dX4_typeVariable_18 ?_
  refine lv_iload_n hx hb dX4_typeVariable_21 rfl (lv_at hl 2 rfl) ?_
  obtain ⟨q4, hq4, h⟩ := ob h
  refine mg_i (ws' := wX4 a4 a2 a1 a3 a0 cI cZ (x, q3.2, t, k, b)) (wr := ((wX4o a4 a2 a1 a0 cI cZ x) ++ (wX2o a2 cI cZ q3.2) ++ (wX1o a1 a3 cI cZ t) ++ (wX3o a3 cI cZ k) ++ (wX0o a0 cI cZ b) : va_W)) [] [0, 1, 2, 3, 4, 5, 6, 7, 8, 9, 10, 11, 12, 13, 14, 15, 16, 17, 18, 19, 20, 21, 22, 23, 24, 25, 26, 27, 28] [0, 1, 2, 3, 4, 5, 6, 7, 8, 9, 10, 11, 12, 13, 14, 15, 16, 17, 18, 19, 20, 21, 22, 23, 24, 25, 26, 27, 28] (va_runS (As := [.int x1]) (rest := [.ref (a2 0), .ref (a2 0), .ref (a4 0)]) ⟨hx, hb, hml, hown, hts⟩ (c_X4_headOfVariable l D cI cZ N x1 q4.1 q4.2 hq4 H.size) (va_cwS 1 hts gX4_typeVariable_X4_headOfVariable rfl rfl rfl (by decide +kernel) ⟨Nat.le_of_ble_eq_true rfl, Nat.le_of_ble_eq_true rfl⟩) (pS [] hP hD hK hN rfl rfl) rfl rfl hl.1 rfl (lv_room (Nat.le_of_ble_eq_true rfl)) dX4_typeVariable_22 ⟨Nat.le_of_ble_eq_true rfl, Nat.le_of_ble_eq_true rfl⟩) hP hD hS hA rfl rfl rfl (by decide) rfl rfl (fun H locs hP hD hS => ?_)
  refine lv_iconst (v := (-1)) hx hb dX4_typeVariable_25 rfl ?_
  refine lv_iconst (v := (-1)) hx hb dX4_typeVariable_26 rfl ?_
  obtain ⟨q5, hq5, h⟩ := ob h
  refine mg_i (ws' := wX4 a4 a2 a1 a3 a0 cI cZ (x, q5.2, t, k, b)) (wr := ((wX4o a4 a2 a1 a0 cI cZ x) ++ (wX1o a1 a3 cI cZ t) ++ (wX3o a3 cI cZ k) ++ (wX0o a0 cI cZ b) : va_W)) [3, 4, 5, 6, 7, 8, 9, 10, 11, 12, 13] [0, 1, 2, 14, 15, 16, 17, 18, 19, 20, 21, 22, 23, 24, 25, 26, 27, 28] [0, 1, 2, 18, 19, 20, 21, 22, 23, 24, 25, 26, 27, 28, 3, 4, 5, 6, 7, 8, 9, 10, 11, 12, 13, 14, 15, 16, 17] (va_runV (As := [.int q4.1, .int (-1), .int (-1)]) (rest := [.ref (a2 0), .ref (a4 0)]) ⟨hx, hb, hml, hown, hts⟩ (c_X2_made l D cI cZ a2 N q3.2 q4.1 (-1) (-1) q5.1 q5.2 hq5 H.size) (cwV 3 hts gX4_typeVariable_X2_made rfl rfl rfl (by decide +kernel) ⟨Nat.le_of_ble_eq_true rfl, Nat.le_of_ble_eq_true rfl⟩) (pV [3, 4, 5, 6, 7, 8, 9, 10, 11, 12, 13] hP hD hK hN rfl rfl rfl rfl) rfl rfl hl.1 rfl (lv_room (Nat.le_of_ble_eq_true rfl)) dX4_typeVariable_27 ⟨Nat.le_of_ble_eq_true rfl, Nat.le_of_ble_eq_true rfl⟩) hP hD hS hA rfl rfl rfl (by decide) rfl rfl (fun H locs hP hD hS => ?_)
  obtain ⟨q6, hq6, h⟩ := ob h
  refine mg_i (ws' := wX4 a4 a2 a1 a3 a0 cI cZ (x, q6.2, t, k, b)) (wr := ((wX4o a4 a2 a1 a0 cI cZ x) ++ (wX1o a1 a3 cI cZ t) ++ (wX3o a3 cI cZ k) ++ (wX0o a0 cI cZ b) : va_W)) [3, 4, 5, 6, 7, 8, 9, 10, 11, 12, 13] [0, 1, 2, 14, 15, 16, 17, 18, 19, 20, 21, 22, 23, 24, 25, 26, 27, 28] [0, 1, 2, 18, 19, 20, 21, 22, 23, 24, 25, 26, 27, 28, 3, 4, 5, 6, 7, 8, 9, 10, 11, 12, 13, 14, 15, 16, 17] (va_runV (As := [.int q5.1]) (rest := [.ref (a4 0)]) ⟨hx, hb, hml, hown, hts⟩ (c_X2_keep l D cI cZ a2 N q5.2 q5.1 q6.1 q6.2 hq6 H.size) (cwV 1 hts gX4_typeVariable_X2_keep rfl rfl rfl (by decide +kernel) ⟨Nat.le_of_ble_eq_true rfl, Nat.le_of_ble_eq_true rfl⟩) (pV [3, 4, 5, 6, 7, 8, 9, 10, 11, 12, 13] hP hD hK hN rfl rfl rfl rfl) rfl rfl hl.1 rfl (lv_room (Nat.le_of_ble_eq_true rfl)) dX4_typeVariable_30 ⟨Nat.le_of_ble_eq_true rfl, Nat.le_of_ble_eq_true rfl⟩) hP hD hS hA rfl rfl rfl (by decide) rfl rfl (fun H locs hP hD hS => ?_)
  refine lv_iload_n hx hb dX4_typeVariable_33 rfl (lv_at hl 0 rfl) ?_
  obtain ⟨q7, hq7, h⟩ := ob h
  refine mx_i (uo := (q7.2.1, q7.2.2.1, q7.2.2.2.1, q7.2.2.2.2.1, q7.2.2.2.2.2)) (wr := ([] : va_W)) [0, 1, 2, 3, 4, 5, 6, 7, 8, 9, 10, 11, 12, 13, 14, 15, 16, 17, 18, 19, 20, 21, 22, 23, 24, 25, 26, 27, 28] [] [0, 1, 2, 3, 4, 5, 6, 7, 8, 9, 10, 11, 12, 13, 14, 15, 16, 17, 18, 19, 20, 21, 22, 23, 24, 25, 26, 27, 28] (vx_runV (As := [.int q6.1, .int q3.1]) (rest := []) ⟨hx, hb, hml, hown, hts⟩ (c_X4_settled l hlt D cI cZ sa a4 a2 a1 a3 a0 N x q6.2 t k b q6.1 q3.1 q7.1 q7.2 hq7 H.size) (cwV 2 hts gX4_typeVariable_X4_settled rfl rfl rfl (by decide +kernel) ⟨Nat.le_of_ble_eq_true rfl, Nat.le_of_ble_eq_true rfl⟩) (pXV [0, 1, 2, 3, 4, 5, 6, 7, 8, 9, 10, 11, 12, 13, 14, 15, 16, 17, 18, 19, 20, 21, 22, 23, 24, 25, 26, 27, 28] hP hD hS hA hK hN hX rfl rfl rfl rfl) rfl rfl hl.1 rfl (lv_room (Nat.le_of_ble_eq_true rfl)) dX4_typeVariable_34 ⟨Nat.le_of_ble_eq_true rfl, Nat.le_of_ble_eq_true rfl⟩) hT hlocks hK hP hD hS hA rfl rfl rfl (by decide) rfl rfl (by decide) (by decide) (fun k9 hk9 => by rw [hk9] at h; exact h) (fun r8 hr9 H locs hP hD hS => ?_)
  rw [hr9, ex_inl] at h
  obtain ⟨rfl, rfl⟩ := so h
  exact xret_i C0 hP hD hS dX4_typeVariable_37 (by decide) (by decide)

theorem in_X4_typeBehind_X4 : ∀ w ∈ u_ws RX4 TX4 7, w ∈ wsX4_typeBehind := by decide +kernel
theorem xw_X4_typeBehind_95 : ∀ w ∈ (vx_atS RX4 95 "java/lang/IndexOutOfBoundsException" ["java/lang/RuntimeException", "java/lang/Exception"]).filter goodWord, w ∈ wsX4_typeBehind := by decide +kernel
def f_X4_typeBehind (N : Nat) (x y t k b : St) (x1 : Int32) : Option ((Int32 ⊕ Nat) × (St × St × St × St × St)) := (f_X2_behind N y x1).bind (fun q1 => if q1.1 = (-1) then some (.inr 2, (x, q1.2, t, k, b)) else some (.inl q1.1, (x, q1.2, t, k, b)))
set_option maxHeartbeats 4000000 in
set_option maxRecDepth 100000 in
theorem c_X4_typeBehind (l : Launch) (hlt : l.stackTraces = false) (D : va_G) (cI cZ : ClassId) (sa : Nat → Nat) (a4 a2 a1 a3 a0 : Nat → Nat) (N : Nat) (x y t k b : St) (x1 : Int32) : XI l yX4_typeBehind wsX4_typeBehind ({ frames := 6, cells := 1, slots := 6, locals := 82 } : Room) D cI cZ sa (wX4 a4 a2 a1 a3 a0 cI cZ) [.ref (a4 0), .int x1] (x, y, t, k, b) 1 6 (f_X4_typeBehind N x y t k b x1) := by
  refine XI.of (cc := cX4_typeBehind) (maxL := 3) (ret := (some .int)) (own := RX4) hlt (by decide) rfl rfl (Nat.le_of_ble_eq_true rfl) ?_
  intro res u1 h p e s m args below meth c A C0 H locs ls hP hD hS hl
  obtain ⟨⟨hx, hb, hml, hr, hown, hts, hlocks, hA, hK, hN⟩, hX, hlt, hT⟩ := id C0
  have hl : lv_has ls 3 [(0, .ref (a4 0)), (1, .int x1)] := hl
  unfold f_X4_typeBehind at h
  refine lv_aload_n hx hb dX4_typeBehind_0 rfl (lv_at hl 0 rfl) ?_
  refine va_get (D := D) (ci := 4) (v := .ref (a2 0)) (C := RX4) (T := TX4) (N := 7) hx hb hts in_X4_typeBehind_X4 hown hK hP 0 rfl rfl 0 (by decide) (hts (.fieldLink RX4 10 "TermLoom" "types" "LTermLoom$TypeTable;") (by decide +kernel)) (fun _ h9 => h9) rfl dX4_typeBehind_1 ?_
  refine lv_iload_n hx hb dX4_typeBehind_4 rfl (lv_at hl 1 rfl) ?_
  obtain ⟨q1, hq1, h⟩ := ob h
  refine mg_i (ws' := wX4 a4 a2 a1 a3 a0 cI cZ (x, q1.2, t, k, b)) (wr := ((wX4o a4 a2 a1 a0 cI cZ x) ++ (wX1o a1 a3 cI cZ t) ++ (wX3o a3 cI cZ k) ++ (wX0o a0 cI cZ b) : va_W)) [3, 4, 5, 6, 7, 8, 9, 10, 11, 12, 13] [0, 1, 2, 14, 15, 16, 17, 18, 19, 20, 21, 22, 23, 24, 25, 26, 27, 28] [0, 1, 2, 18, 19, 20, 21, 22, 23, 24, 25, 26, 27, 28, 3, 4, 5, 6, 7, 8, 9, 10, 11, 12, 13, 14, 15, 16, 17] (va_runV (As := [.int x1]) (rest := []) ⟨hx, hb, hml, hown, hts⟩ (c_X2_behind l D cI cZ a2 N y x1 q1.1 q1.2 hq1 H.size) (cwV 1 hts gX4_typeBehind_X2_behind rfl rfl rfl (by decide +kernel) ⟨Nat.le_of_ble_eq_true rfl, Nat.le_of_ble_eq_true rfl⟩) (pV [3, 4, 5, 6, 7, 8, 9, 10, 11, 12, 13] hP hD hK hN rfl rfl rfl rfl) rfl rfl hl.1 rfl (lv_room (Nat.le_of_ble_eq_true rfl)) dX4_typeBehind_5 ⟨Nat.le_of_ble_eq_true rfl, Nat.le_of_ble_eq_true rfl⟩) hP hD hS hA rfl rfl rfl (by decide) rfl rfl (fun H locs hP hD hS => ?_)
  refine lv_istore_n (lv' := [(2, .int q1.1), (0, .ref (a4 0)), (1, .int x1)]) hx hb dX4_typeBehind_8 rfl hl (by decide) rfl (fun ls hl => ?_)
  refine lv_iload_n hx hb dX4_typeBehind_9 rfl (lv_at hl 0 rfl) ?_
  refine lv_iconst (v := (-1)) hx hb dX4_typeBehind_10 rfl ?_
  refine lv_icmp_ne (tgt := 24) hx hb dX4_typeBehind_11 (by decide) (fun hc2 => ?_) (fun hc2 => ?_)
  · rw [if_neg hc2] at h
    refine lv_iload_n hx hb dX4_typeBehind_24 rfl (lv_at hl 0 rfl) ?_
    obtain ⟨rfl, rfl⟩ := so h
    exact xret_i C0 hP hD hS dX4_typeBehind_25 (by decide) (by decide)
  · rw [if_pos hc2] at h
    obtain ⟨rfl, rfl⟩ := so h
    exact x_throw (is := 250) (text := "no such type") (cls := "java/lang/IndexOutOfBoundsException") (lv := [(2, .int q1.1), (0, .ref (a4 0)), (1, .int x1)]) C0 rfl (by decide +kernel) (by decide +kernel) xw_X4_typeBehind_95 (by decide +kernel) (by decide +kernel) (by decide +kernel) (by decide +kernel) hP hD hS hl dX4_typeBehind_14 dX4_typeBehind_17 dX4_typeBehind_18 dX4_typeBehind_20 dX4_typeBehind_23 (Nat.le_of_ble_eq_true rfl) (Nat.le_of_ble_eq_true rfl) (Nat.le_of_ble_eq_true rfl) (Nat.le_of_ble_eq_true rfl) (by decide) (by decide)

theorem in_X4_type_X4 : ∀ w ∈ u_ws RX4 TX4 7, w ∈ wsX4_type := by decide +kernel
theorem xw_X4_type_48 : ∀ w ∈ (vx_atS RX4 48 "java/lang/IllegalArgumentException" ["java/lang/RuntimeException", "java/lang/Exception"]).filter goodWord, w ∈ wsX4_type := by decide +kernel
def f_X4_type_12 (N : Nat) (x y t k b : St) : Option ((Int32 ⊕ Nat) × (St × St × St × St × St)) := some (.inr 0, (x, y, t, k, b))
def f_X4_type_64 (N : Nat) (x y t k b : St) (x1 x5 s0 : Int32) : Option ((Int32 ⊕ Nat) × (St × St × St × St × St)) := (f_X2_count N y).bind (fun q1 => (f_X2_made N q1.2 x1 x5 s0).bind (fun q2 => (f_X2_keep N q2.2 q2.1).bind (fun q3 => (f_X4_settled N x q3.2 t k b q3.1 q1.1).bind (fun q4 => ex q4.1 (q4.2.1, q4.2.2.1, q4.2.2.2.1, q4.2.2.2.2.1, q4.2.2.2.2.2) (fun r5 => some (.inl r5, (q4.2.1, q4.2.2.1, q4.2.2.2.1, q4.2.2.2.2.1, q4.2.2.2.2.2)))))))
def f_X4_type_47 (N : Nat) (x y t k b : St) (x1 x3 x4 s0 : Int32) : Option ((Int32 ⊕ Nat) × (St × St × St × St × St)) := if x4 < 2 then f_X4_type_64 N x y t k b x1 s0 (-1) else (f_X4_typeBehind N x y t k b x3).bind (fun q2 => ex q2.1 (q2.2.1, q2.2.2.1, q2.2.2.2.1, q2.2.2.2.2.1, q2.2.2.2.2.2) (fun r3 => f_X4_type_64 N q2.2.1 q2.2.2.1 q2.2.2.2.1 q2.2.2.2.2.1 q2.2.2.2.2.2 x1 s0 r3))
def f_X4_type (N : Nat) (x y t k b : St) (x1 x2 x3 : Int32) : Option ((Int32 ⊕ Nat) × (St × St × St × St × St)) := if x1 < 0 then f_X4_type_12 N x y t k b else if x1 < (x 5 0) then (f_X4_read N 40 (x 3) x1).bind (fun q3 => if q3.1 < 1 then f_X4_type_47 N x y t k b x1 x3 q3.1 (-1) else (f_X4_typeBehind N x y t k b x2).bind (fun q5 => ex q5.1 (q5.2.1, q5.2.2.1, q5.2.2.2.1, q5.2.2.2.2.1, q5.2.2.2.2.2) (fun r6 => f_X4_type_47 N q5.2.1 q5.2.2.1 q5.2.2.2.1 q5.2.2.2.2.1 q5.2.2.2.2.2 x1 x3 q3.1 r6))) else f_X4_type_12 N x y t k b
abbrev KP_X4_type_12 (p : Program) (l : Launch) (e : Env) (s : State) (m : MethodId) (args : Array Value) (below : List Frame) (meth : Method) (c : Code) (D : va_G) (cI cZ : ClassId) (a4 a2 a1 a3 a0 : Nat → Nat) (A : Nat → Prop) (res : Int32 ⊕ Nat) (u1 : St × St × St × St × St) (K : St → St → St → St → St → Option ((Int32 ⊕ Nat) × (St × St × St × St × St))) : Prop := ∀ (x y t k b : St) (H : Heap) (locs : List Loc) (ls : Array Slot), va_P D vwCl (wX4 a4 a2 a1 a3 a0 cI cZ (x, y, t, k, b)) H → va_D A (wX4 a4 a2 a1 a3 a0 cI cZ (x, y, t, k, b)) → va_S A s.heap H locs → lv_has ls 8 [] → K x y t k b = some (res, u1) → W p l e ({ frames := 7, cells := 3, slots := 18, locals := 104 } : Room) s m args below meth c H locs 0 0 (vx_MQ below (xI D cI cZ (wX4 a4 a2 a1 a3 a0 cI cZ) A res u1) (xX D cI cZ (wX4 a4 a2 a1 a3 a0 cI cZ) A res u1) args s 3 18 A) (F0 m 12 ls [])
abbrev KP_X4_type_64 (p : Program) (l : Launch) (e : Env) (s : State) (m : MethodId) (args : Array Value) (below : List Frame) (meth : Method) (c : Code) (D : va_G) (cI cZ : ClassId) (a4 a2 a1 a3 a0 : Nat → Nat) (A : Nat → Prop) (res : Int32 ⊕ Nat) (u1 : St × St × St × St × St) (K : St → St → St → St → St → Int32 → Int32 → Int32 → Option ((Int32 ⊕ Nat) × (St × St × St × St × St))) : Prop := ∀ (x y t k b : St) (x1 x5 s0 : Int32) (H : Heap) (locs : List Loc) (ls : Array Slot), va_P D vwCl (wX4 a4 a2 a1 a3 a0 cI cZ (x, y, t, k, b)) H → va_D A (wX4 a4 a2 a1 a3 a0 cI cZ (x, y, t, k, b)) → va_S A s.heap H locs → lv_has ls 8 [(0, .ref (a4 0)), (1, .int x1), (5, .int x5)] → K x y t k b x1 x5 s0 = some (res, u1) → W p l e ({ frames := 7, cells := 3, slots := 18, locals := 104 } : Room) s m args below meth c H locs 2 12 (vx_MQ below (xI D cI cZ (wX4 a4 a2 a1 a3 a0 cI cZ) A res u1) (xX D cI cZ (wX4 a4 a2 a1 a3 a0 cI cZ) A res u1) args s 3 18 A) (F0 m 64 ls [.int s0])
abbrev KP_X4_type_47 (p : Program) (l : Launch) (e : Env) (s : State) (m : MethodId) (args : Array Value) (below : List Frame) (meth : Method) (c : Code) (D : va_G) (cI cZ : ClassId) (a4 a2 a1 a3 a0 : Nat → Nat) (A : Nat → Prop) (res : Int32 ⊕ Nat) (u1 : St × St × St × St × St) (K : St → St → St → St → St → Int32 → Int32 → Int32 → Int32 → Option ((Int32 ⊕ Nat) × (St × St × St × St × St))) : Prop := ∀ (x y t k b : St) (x1 x3 x4 s0 : Int32) (H : Heap) (locs : List Loc) (ls : Array Slot), va_P D vwCl (wX4 a4 a2 a1 a3 a0 cI cZ (x, y, t, k, b)) H → va_D A (wX4 a4 a2 a1 a3 a0 cI cZ (x, y, t, k, b)) → va_S A s.heap H locs → lv_has ls 8 [(0, .ref (a4 0)), (1, .int x1), (3, .int x3), (4, .int x4)] → K x y t k b x1 x3 x4 s0 = some (res, u1) → W p l e ({ frames := 7, cells := 3, slots := 18, locals := 104 } : Room) s m args below meth c H locs 1 6 (vx_MQ below (xI D cI cZ (wX4 a4 a2 a1 a3 a0 cI cZ) A res u1) (xX D cI cZ (wX4 a4 a2 a1 a3 a0 cI cZ) A res u1) args s 3 18 A) (F0 m 47 ls [.int s0])
set_option maxHeartbeats 4000000 in
set_option maxRecDepth 100000 in
theorem k_X4_type_12 {p : Program} {l : Launch} {e : Env} {s : State} {m : MethodId} {args : Array Value} {below : List Frame} {meth : Method} {c : Code} {D : va_G} {cI cZ : ClassId} {sa : Nat → Nat} {a4 a2 a1 a3 a0 : Nat → Nat} {A : Nat → Prop} {res : Int32 ⊕ Nat} {u1 : St × St × St × St × St} (C0 : mX l p s m args meth c D cI cZ sa A cX4_type 8 (some .int) wsX4_type RX4) (N : Nat) : KP_X4_type_12 p l e s m args below meth c D cI cZ a4 a2 a1 a3 a0 A res u1 (f_X4_type_12 N) := by
  obtain ⟨⟨hx, hb, hml, hr, hown, hts, hlocks, hA, hK, hN⟩, hX, hlt, hT⟩ := id C0
  intro x y t k b H locs ls hP hD hS hl h
  unfold f_X4_type_12 at h
  obtain ⟨rfl, rfl⟩ := so h
  exact x_throw (is := 79) (text := "no such constructor") (cls := "java/lang/IllegalArgumentException") (lv := []) C0 rfl (by decide +kernel) (by decide +kernel) xw_X4_type_48 (by decide +kernel) (by decide +kernel) (by decide +kernel) (by decide +kernel) hP hD hS hl dX4_type_12 dX4_type_15 dX4_type_16 dX4_type_18 dX4_type_21 (Nat.le_of_ble_eq_true rfl) (Nat.le_of_ble_eq_true rfl) (Nat.le_of_ble_eq_true rfl) (Nat.le_of_ble_eq_true rfl) (by decide) (by decide)
set_option maxHeartbeats 4000000 in
set_option maxRecDepth 100000 in
theorem k_X4_type_64 {p : Program} {l : Launch} {e : Env} {s : State} {m : MethodId} {args : Array Value} {below : List Frame} {meth : Method} {c : Code} {D : va_G} {cI cZ : ClassId} {sa : Nat → Nat} {a4 a2 a1 a3 a0 : Nat → Nat} {A : Nat → Prop} {res : Int32 ⊕ Nat} {u1 : St × St × St × St × St} (C0 : mX l p s m args meth c D cI cZ sa A cX4_type 8 (some .int) wsX4_type RX4) (N : Nat) : KP_X4_type_64 p l e s m args below meth c D cI cZ a4 a2 a1 a3 a0 A res u1 (f_X4_type_64 N) := by
  obtain ⟨⟨hx, hb, hml, hr, hown, hts, hlocks, hA, hK, hN⟩, hX, hlt, hT⟩ := id C0
  intro x y t k b x1 x5 s0 H locs ls hP hD hS hl h
  unfold f_X4_type_64 at h
  refine lv_istore (lv' := [(6, .int s0), (0, .ref (a4 0)), (1, .int x1), (5, .int x5)]) hx hb dX4_type_64 hl (by decide) rfl (fun ls hl => ?_)
  refine lv_aload_n hx hb dX4_type_66 rfl (lv_at hl 1 rfl) ?_
  refine va_get (D := D) (ci := 4) (v := .ref (a2 0)) (C := RX4) (T := TX4) (N := 7) hx hb hts in_X4_type_X4 hown hK hP 0 rfl rfl 0 (by decide) (hts (.fieldLink RX4 10 "TermLoom" "types" "LTermLoom$TypeTable;") (by decide +kernel)) (fun _ h9 => h9) rfl dX4_type_67 ?_
  obtain ⟨q1, hq1, h⟩ := ob h
  refine mg_i (ws' := wX4 a4 a2 a1 a3 a0 cI cZ (x, q1.2, t, k, b)) (wr := ((wX4o a4 a2 a1 a0 cI cZ x) ++ (wX1o a1 a3 cI cZ t) ++ (wX3o a3 cI cZ k) ++ (wX0o a0 cI cZ b) : va_W)) [3, 4, 5, 6, 7, 8, 9, 10, 11, 12, 13] [0, 1, 2, 14, 15, 16, 17, 18, 19, 20, 21, 22, 23, 24, 25, 26, 27, 28] [0, 1, 2, 18, 19, 20, 21, 22, 23, 24, 25, 26, 27, 28, 3, 4, 5, 6, 7, 8, 9, 10, 11, 12, 13, 14, 15, 16, 17] (va_runV (As := []) (rest := []) ⟨hx, hb, hml, hown, hts⟩ (c_X2_count l D cI cZ a2 N y q1.1 q1.2 hq1 H.size) (cwV 0 hts gX4_type_X2_count rfl rfl rfl (by decide +kernel) ⟨Nat.le_of_ble_eq_true rfl, Nat.le_of_ble_eq_true rfl⟩) (pV [3, 4, 5, 6, 7, 8, 9, 10, 11, 12, 13] hP hD hK hN rfl rfl rfl rfl) rfl rfl hl.1 rfl (lv_room (Nat.le_of_ble_eq_true rfl)) dX4_type_70 ⟨Nat.le_of_ble_eq_true rfl, Nat.le_of_ble_eq_true rfl⟩) hP hD hS hA rfl rfl rfl (by decide) rfl rfl (fun H locs hP hD hS => ?_)
  refine lv_istore (lv' := [(7, .int q1.1), (6, .int s0), (0, .ref (a4 0)), (1, .int x1), (5, .int x5)]) hx hb dX4_type_73 hl (by decide) rfl (fun ls hl => ?_)
  refine lv_aload_n hx hb dX4_type_75 rfl (lv_at hl 2 rfl) ?_
  refine lv_aload_n hx hb dX4_type_76 rfl (lv_at hl 2 rfl) ?_
  refine va_get (D := D) (ci := 4) (v := .ref (a2 0)) (C := RX4) (T := TX4) (N := 7) hx hb hts in_X4_type_X4 hown hK hP 0 rfl rfl 0 (by decide) (hts (.fieldLink RX4 10 "TermLoom" "types" "LTermLoom$TypeTable;") (by decide +kernel)) (fun _ h9 => h9) rfl dX4_type_77 ?_
  refine lv_aload_n hx hb dX4_type_80 rfl (lv_at hl 2 rfl) ?_
  refine va_get (D := D) (ci := 4) (v := .ref (a2 0)) (C := RX4) (T := TX4) (N := 7) hx hb hts in_X4_type_X4 hown hK hP 0 rfl rfl 0 (by decide) (hts (.fieldLink RX4 10 "TermLoom" "types" "LTermLoom$TypeTable;") (by decide +kernel)) (fun _ h9 => h9) rfl dX4_type_81 ?_
  refine lv_iload_n hx hb dX4_type_84 rfl (lv_at hl 3 rfl) ?_
  refine lv_iload hx hb dX4_type_85 (lv_at hl 4 rfl) ?_
  refine lv_iload hx hb dX4_type_87 (lv_at hl 1 rfl) ?_
  obtain ⟨q2, hq2, h⟩ := ob h
  refine mg_i (ws' := wX4 a4 a2 a1 a3 a0 cI cZ (x, q2.2, t, k, b)) (wr := ((wX4o a4 a2 a1 a0 cI cZ x) ++ (wX1o a1 a3 cI cZ t) ++ (wX3o a3 cI cZ k) ++ (wX0o a0 cI cZ b) : va_W)) [3, 4, 5, 6, 7, 8, 9, 10, 11, 12, 13] [0, 1, 2, 14, 15, 16, 17, 18, 19, 20, 21, 22, 23, 24, 25, 26, 27, 28] [0, 1, 2, 18, 19, 20, 21, 22, 23, 24, 25, 26, 27, 28, 3, 4, 5, 6, 7, 8, 9, 10, 11, 12, 13, 14, 15, 16, 17] (va_runV (As := [.int x1, .int x5, .int s0]) (rest := [.ref (a2 0), .ref (a4 0)]) ⟨hx, hb, hml, hown, hts⟩ (c_X2_made l D cI cZ a2 N q1.2 x1 x5 s0 q2.1 q2.2 hq2 H.size) (cwV 3 hts gX4_type_X2_made rfl rfl rfl (by decide +kernel) ⟨Nat.le_of_ble_eq_true rfl, Nat.le_of_ble_eq_true rfl⟩) (pV [3, 4, 5, 6, 7, 8, 9, 10, 11, 12, 13] hP hD hK hN rfl rfl rfl rfl) rfl rfl hl.1 rfl (lv_room (Nat.le_of_ble_eq_true rfl)) dX4_type_89 ⟨Nat.le_of_ble_eq_true rfl, Nat.le_of_ble_eq_true rfl⟩) hP hD hS hA rfl rfl rfl (by decide) rfl rfl (fun H locs hP hD hS => ?_)
  obtain ⟨q3, hq3, h⟩ := ob h
  refine mg_i (ws' := wX4 a4 a2 a1 a3 a0 cI cZ (x, q3.2, t, k, b)) (wr := ((wX4o a4 a2 a1 a0 cI cZ x) ++ (wX1o a1 a3 cI cZ t) ++ (wX3o a3 cI cZ k) ++ (wX0o a0 cI cZ b) : va_W)) [3, 4, 5, 6, 7, 8, 9, 10, 11, 12, 13] [0, 1, 2, 14, 15, 16, 17, 18, 19, 20, 21, 22, 23, 24, 25, 26, 27, 28] [0, 1, 2, 18, 19, 20, 21, 22, 23, 24, 25, 26, 27, 28, 3, 4, 5, 6, 7, 8, 9, 10, 11, 12, 13, 14, 15, 16, 17] (va_runV (As := [.int q2.1]) (rest := [.ref (a4 0)]) ⟨hx, hb, hml, hown, hts⟩ (c_X2_keep l D cI cZ a2 N q2.2 q2.1 q3.1 q3.2 hq3 H.size) (cwV 1 hts gX4_type_X2_keep rfl rfl rfl (by decide +kernel) ⟨Nat.le_of_ble_eq_true rfl, Nat.le_of_ble_eq_true rfl⟩) (pV [3, 4, 5, 6, 7, 8, 9, 10, 11, 12, 13] hP hD hK hN rfl rfl rfl rfl) rfl rfl hl.1 rfl (lv_room (Nat.le_of_ble_eq_true rfl)) dX4_type_92 ⟨Nat.le_of_ble_eq_true rfl, Nat.le_of_ble_eq_true rfl⟩) hP hD hS hA rfl rfl rfl (by decide) rfl rfl (fun H locs hP hD hS => ?_)
  refine lv_iload hx hb dX4_type_95 (lv_at hl 0 rfl) ?_
  obtain ⟨q4, hq4, h⟩ := ob h
  refine mx_i (uo := (q4.2.1, q4.2.2.1, q4.2.2.2.1, q4.2.2.2.2.1, q4.2.2.2.2.2)) (wr := ([] : va_W)) [0, 1, 2, 3, 4, 5, 6, 7, 8, 9, 10, 11, 12, 13, 14, 15, 16, 17, 18, 19, 20, 21, 22, 23, 24, 25, 26, 27, 28] [] [0, 1, 2, 3, 4, 5, 6, 7, 8, 9, 10, 11, 12, 13, 14, 15, 16, 17, 18, 19, 20, 21, 22, 23, 24, 25, 26, 27, 28] (vx_runV (As := [.int q3.1, .int q1.1]) (rest := []) ⟨hx, hb, hml, hown, hts⟩ (c_X4_settled l hlt D cI cZ sa a4 a2 a1 a3 a0 N x q3.2 t k b q3.1 q1.1 q4.1 q4.2 hq4 H.size) (cwV 2 hts gX4_type_X4_settled rfl rfl rfl (by decide +kernel) ⟨Nat.le_of_ble_eq_true rfl, Nat.le_of_ble_eq_true rfl⟩) (pXV [0, 1, 2, 3, 4, 5, 6, 7, 8, 9, 10, 11, 12, 13, 14, 15, 16, 17, 18, 19, 20, 21, 22, 23, 24, 25, 26, 27, 28] hP hD hS hA hK hN hX rfl rfl rfl rfl) rfl rfl hl.1 rfl (lv_room (Nat.le_of_ble_eq_true rfl)) dX4_type_97 ⟨Nat.le_of_ble_eq_true rfl, Nat.le_of_ble_eq_true rfl⟩) hT hlocks hK hP hD hS hA rfl rfl rfl (by decide) rfl rfl (by decide) (by decide) (fun k9 hk9 => by rw [hk9] at h; exact h) (fun r5 hr9 H locs hP hD hS => ?_)
  rw [hr9, ex_inl] at h
  obtain ⟨rfl, rfl⟩ := so h
  exact xret_i C0 hP hD hS dX4_type_100 (by decide) (by decide)
set_option maxHeartbeats 4000000 in
set_option maxRecDepth 100000 in
theorem k_X4_type_47 {p : Program} {l : Launch} {e : Env} {s : State} {m : MethodId} {args : Array Value} {below : List Frame} {meth : Method} {c : Code} {D : va_G} {cI cZ : ClassId} {sa : Nat → Nat} {a4 a2 a1 a3 a0 : Nat → Nat} {A : Nat → Prop} {res : Int32 ⊕ Nat} {u1 : St × St × St × St × St} (C0 : mX l p s m args meth c D cI cZ sa A cX4_type 8 (some .int) wsX4_type RX4) (N : Nat) : KP_X4_type_47 p l e s m args below meth c D cI cZ a4 a2 a1 a3 a0 A res u1 (f_X4_type_47 N) := by
  obtain ⟨⟨hx, hb, hml, hr, hown, hts, hlocks, hA, hK, hN⟩, hX, hlt, hT⟩ := id C0
  intro x y t k b x1 x3 x4 s0 H locs ls hP hD hS hl h
  unfold f_X4_type_47 at h
  refine lv_istore (lv' := [(5, .int s0), (0, .ref (a4 0)), (1, .int x1), (3, .int x3), (4, .int x4)]) hx hb dX4_type_47 hl (by decide) rfl (fun ls hl => ?_)
  refine lv_iload hx hb dX4_type_49 (lv_at hl 4 rfl) ?_
  refine lv_iconst (v := 2) hx hb dX4_type_51 rfl ?_
  refine lv_icmp_lt (tgt := 63) hx hb dX4_type_52 (by decide) (fun hc1 => ?_) (fun hc1 => ?_)
  · rw [if_pos hc1] at h
    refine lv_iconst (v := (-1)) hx hb dX4_type_63 rfl ?_
    refine W.widen (k := 2) (n := 12) (by decide) (by decide) ?_
    exact k_X4_type_64 C0 N x y t k b x1 s0 (-1) _ _ _ hP hD hS (lv_sub hl [1, 2, 0] rfl) h
  · rw [if_neg hc1] at h
    refine lv_aload_n hx hb dX4_type_55 rfl (lv_at hl 1 rfl) ?_
    refine lv_iload_n hx hb dX4_type_56 rfl (lv_at hl 3 rfl) ?_
    obtain ⟨q2, hq2, h⟩ := ob h
    refine mx_i (uo := (q2.2.1, q2.2.2.1, q2.2.2.2.1, q2.2.2.2.2.1, q2.2.2.2.2.2)) (wr := ([] : va_W)) [0, 1, 2, 3, 4, 5, 6, 7, 8, 9, 10, 11, 12, 13, 14, 15, 16, 17, 18, 19, 20, 21, 22, 23, 24, 25, 26, 27, 28] [] [0, 1, 2, 3, 4, 5, 6, 7, 8, 9, 10, 11, 12, 13, 14, 15, 16, 17, 18, 19, 20, 21, 22, 23, 24, 25, 26, 27, 28] (vx_runV (As := [.int x3]) (rest := []) ⟨hx, hb, hml, hown, hts⟩ (c_X4_typeBehind l hlt D cI cZ sa a4 a2 a1 a3 a0 N x y t k b x3 q2.1 q2.2 hq2 H.size) (cwV 1 hts gX4_type_X4_typeBehind rfl rfl rfl (by decide +kernel) ⟨Nat.le_of_ble_eq_true rfl, Nat.le_of_ble_eq_true rfl⟩) (pXV [0, 1, 2, 3, 4, 5, 6, 7, 8, 9, 10, 11, 12, 13, 14, 15, 16, 17, 18, 19, 20, 21, 22, 23, 24, 25, 26, 27, 28] hP hD hS hA hK hN hX rfl rfl rfl rfl) rfl rfl hl.1 rfl (lv_room (Nat.le_of_ble_eq_true rfl)) dX4_type_57 ⟨Nat.le_of_ble_eq_true rfl, Nat.le_of_ble_eq_true rfl⟩) hT hlocks hK hP hD hS hA rfl rfl rfl (by decide) rfl rfl (by decide) (by decide) (fun k9 hk9 => by rw [hk9] at h; exact h) (fun r3 hr9 H locs hP hD hS => ?_)
    rw [hr9, ex_inl] at h
    refine lv_goto (tgt := 64) hx hb dX4_type_60 (by decide) ?_
    refine W.widen (k := 2) (n := 12) (by decide) (by decide) ?_
    exact k_X4_type_64 C0 N q2.2.1 q2.2.2.1 q2.2.2.2.1 q2.2.2.2.2.1 q2.2.2.2.2.2 x1 s0 r3 _ _ _ hP hD hS (lv_sub hl [1, 2, 0] rfl) h
set_option maxHeartbeats 4000000 in
set_option maxRecDepth 100000 in
theorem c_X4_type (l : Launch) (hlt : l.stackTraces = false) (D : va_G) (cI cZ : ClassId) (sa : Nat → Nat) (a4 a2 a1 a3 a0 : Nat → Nat) (N : Nat) (x y t k b : St) (x1 x2 x3 : Int32) : XI l yX4_type wsX4_type ({ frames := 7, cells := 3, slots := 18, locals := 104 } : Room) D cI cZ sa (wX4 a4 a2 a1 a3 a0 cI cZ) [.ref (a4 0), .int x1, .int x2, .int x3] (x, y, t, k, b) 3 18 (f_X4_type N x y t k b x1 x2 x3) := by
  refine XI.of (cc := cX4_type) (maxL := 8) (ret := (some .int)) (own := RX4) hlt (by decide) rfl rfl (Nat.le_of_ble_eq_true rfl) ?_
  intro res u1 h p e s m args below meth c A C0 H locs ls hP hD hS hl
  obtain ⟨⟨hx, hb, hml, hr, hown, hts, hlocks, hA, hK, hN⟩, hX, hlt, hT⟩ := id C0
  have hl : lv_has ls 8 [(0, .ref (a4 0)), (1, .int x1), (2, .int x2), (3, .int x3)] := hl
  unfold f_X4_type at h
  refine lv_iload_n hx hb dX4_type_0 rfl (lv_at hl 1 rfl) ?_
  refine lv_if_lt (tgt := 12) hx hb dX4_type_1 (by decide) (fun hc1 => ?_) (fun hc1 => ?_)
  · rw [if_pos hc1] at h
    exact k_X4_type_12 C0 N x y t k b _ _ _ hP hD hS (lv_sub hl [] rfl) h
  · rw [if_neg hc1] at h
    refine lv_iload_n hx hb dX4_type_4 rfl (lv_at hl 1 rfl) ?_
    refine lv_aload_n hx hb dX4_type_5 rfl (lv_at hl 0 rfl) ?_
    refine va_get (D := D) (ci := 4) (v := .int (x 5 0)) (C := RX4) (T := TX4) (N := 7) hx hb hts in_X4_type_X4 hown hK hP 0 rfl rfl 5 (by decide) (hts (.fieldLink RX4 37 "TermLoom" "constructors" "I") (by decide +kernel)) (fun _ h9 => h9) rfl dX4_type_6 ?_
    refine lv_icmp_lt (tgt := 22) hx hb dX4_type_9 (by decide) (fun hc2 => ?_) (fun hc2 => ?_)
    · rw [if_pos hc2] at h
      refine lv_aload_n hx hb dX4_type_22 rfl (lv_at hl 0 rfl) ?_
      refine va_get (D := D) (ci := 4) (v := .ref (a4 4)) (C := RX4) (T := TX4) (N := 7) hx hb hts in_X4_type_X4 hown hK hP 0 rfl rfl 3 (by decide) (hts (.fieldLink RX4 30 "TermLoom" "takes" "[I") (by decide +kernel)) (fun _ h9 => h9) rfl dX4_type_23 ?_
      refine lv_iload_n hx hb dX4_type_26 rfl (lv_at hl 1 rfl) ?_
      obtain ⟨q3, hq3, h⟩ := ob h
      refine mg_i (ws' := wX4 a4 a2 a1 a3 a0 cI cZ (x, y, t, k, b)) (wr := ((wX4 a4 a2 a1 a3 a0 cI cZ (x, y, t, k, b)).eraseIdx 1)) [1] [0, 2, 3, 4, 5, 6, 7, 8, 9, 10, 11, 12, 13, 14, 15, 16, 17, 18, 19, 20, 21, 22, 23, 24, 25, 26, 27, 28] [0, 28, 1, 2, 3, 4, 5, 6, 7, 8, 9, 10, 11, 12, 13, 14, 15, 16, 17, 18, 19, 20, 21, 22, 23, 24, 25, 26, 27] (va_runS (As := [.ref (a4 4), .int x1]) (rest := []) ⟨hx, hb, hml, hown, hts⟩ (c_X4_read l D cI cZ (a4 4) 40 (x 3) N x1 q3.1 q3.2 hq3 H.size) (va_cwS 2 hts gX4_type_X4_read rfl rfl rfl (by decide +kernel) ⟨Nat.le_of_ble_eq_true rfl, Nat.le_of_ble_eq_true rfl⟩) (pS [1] hP hD hK hN rfl rfl) rfl rfl hl.1 rfl (lv_room (Nat.le_of_ble_eq_true rfl)) dX4_type_27 ⟨Nat.le_of_ble_eq_true rfl, Nat.le_of_ble_eq_true rfl⟩) hP hD hS hA rfl rfl rfl (by decide) rfl rfl (fun H locs hP hD hS => ?_)
      refine lv_istore (lv' := [(4, .int q3.1), (0, .ref (a4 0)), (1, .int x1), (2, .int x2), (3, .int x3)]) hx hb dX4_type_30 hl (by decide) rfl (fun ls hl => ?_)
      refine lv_iload hx hb dX4_type_32 (lv_at hl 0 rfl) ?_
      refine lv_iconst (v := 1) hx hb dX4_type_34 rfl ?_
      refine lv_icmp_lt (tgt := 46) hx hb dX4_type_35 (by decide) (fun hc4 => ?_) (fun hc4 => ?_)
      · rw [if_pos hc4] at h
        refine lv_iconst (v := (-1)) hx hb dX4_type_46 rfl ?_
        refine W.widen (k := 1) (n := 6) (by decide) (by decide) ?_
        exact k_X4_type_47 C0 N x y t k b x1 x3 q3.1 (-1) _ _ _ hP hD hS (lv_sub hl [1, 2, 4, 0] rfl) h
      · rw [if_neg hc4] at h
        refine lv_aload_n hx hb dX4_type_38 rfl (lv_at hl 1 rfl) ?_
        refine lv_iload_n hx hb dX4_type_39 rfl (lv_at hl 3 rfl) ?_
        obtain ⟨q5, hq5, h⟩ := ob h
        refine mx_i (uo := (q5.2.1, q5.2.2.1, q5.2.2.2.1, q5.2.2.2.2.1, q5.2.2.2.2.2)) (wr := ([] : va_W)) [0, 1, 2, 3, 4, 5, 6, 7, 8, 9, 10, 11, 12, 13, 14, 15, 16, 17, 18, 19, 20, 21, 22, 23, 24, 25, 26, 27, 28] [] [0, 1, 2, 3, 4, 5, 6, 7, 8, 9, 10, 11, 12, 13, 14, 15, 16, 17, 18, 19, 20, 21, 22, 23, 24, 25, 26, 27, 28] (vx_runV (As := [.int x2]) (rest := []) ⟨hx, hb, hml, hown, hts⟩ (c_X4_typeBehind l hlt D cI cZ sa a4 a2 a1 a3 a0 N x y t k b x2 q5.1 q5.2 hq5 H.size) (cwV 1 hts gX4_type_X4_typeBehind rfl rfl rfl (by decide +kernel) ⟨Nat.le_of_ble_eq_true rfl, Nat.le_of_ble_eq_true rfl⟩) (pXV [0, 1, 2, 3, 4, 5, 6, 7, 8, 9, 10, 11, 12, 13, 14, 15, 16, 17, 18, 19, 20, 21, 22, 23, 24, 25, 26, 27, 28] hP hD hS hA hK hN hX rfl rfl rfl rfl) rfl rfl hl.1 rfl (lv_room (Nat.le_of_ble_eq_true rfl)) dX4_type_40 ⟨Nat.le_of_ble_eq_true rfl, Nat.le_of_ble_eq_true rfl⟩) hT hlocks hK hP hD hS hA rfl rfl rfl (by decide) rfl rfl (by decide) (by decide) (fun k9 hk9 => by rw [hk9] at h; exact h) (fun r6 hr9 H locs hP hD hS => ?_)
        rw [hr9, ex_inl] at h
        refine lv_goto (tgt := 47) hx hb dX4_type_43 (by decide) ?_
        refine W.widen (k := 1) (n := 6) (by decide) (by decide) ?_
        exact k_X4_type_47 C0 N q5.2.1 q5.2.2.1 q5.2.2.2.1 q5.2.2.2.2.1 q5.2.2.2.2.2 x1 x3 q3.1 r6 _ _ _ hP hD hS (lv_sub hl [1, 2, 4, 0] rfl) h
    · rw [if_neg hc2] at h
      exact k_X4_type_12 C0 N x y t k b _ _ _ hP hD hS (lv_sub hl [] rfl) h

theorem in_X4_typeSymbol_X4 : ∀ w ∈ u_ws RX4 TX4 7, w ∈ wsX4_typeSymbol := by decide +kernel
theorem xw_X4_typeSymbol_95 : ∀ w ∈ (vx_atS RX4 95 "java/lang/IndexOutOfBoundsException" ["java/lang/RuntimeException", "java/lang/Exception"]).filter goodWord, w ∈ wsX4_typeSymbol := by decide +kernel
def f_X4_typeSymbol_22 (N : Nat) (x y t k b : St) : Option ((Int32 ⊕ Nat) × (St × St × St × St × St)) := some (.inr 2, (x, y, t, k, b))
def f_X4_typeSymbol (N : Nat) (x y t k b : St) (x1 x2 : Int32) : Option ((Int32 ⊕ Nat) × (St × St × St × St × St)) := (f_X4_typeBehind N x y t k b x1).bind (fun q1 => ex q1.1 (q1.2.1, q1.2.2.1, q1.2.2.2.1, q1.2.2.2.2.1, q1.2.2.2.2.2) (fun r2 => if x2 < 0 then f_X4_typeSymbol_22 N q1.2.1 q1.2.2.1 q1.2.2.2.1 q1.2.2.2.2.1 q1.2.2.2.2.2 else (f_X2_symbols N q1.2.2.1 r2).bind (fun q4 => if x2 < q4.1 then (f_X2_headAt N q4.2 r2 x2).bind (fun q6 => some (.inl q6.1, (q1.2.1, q6.2, q1.2.2.2.1, q1.2.2.2.2.1, q1.2.2.2.2.2))) else f_X4_typeSymbol_22 N q1.2.1 q4.2 q1.2.2.2.1 q1.2.2.2.2.1 q1.2.2.2.2.2)))
abbrev KP_X4_typeSymbol_22 (p : Program) (l : Launch) (e : Env) (s : State) (m : MethodId) (args : Array Value) (below : List Frame) (meth : Method) (c : Code) (D : va_G) (cI cZ : ClassId) (a4 a2 a1 a3 a0 : Nat → Nat) (A : Nat → Prop) (res : Int32 ⊕ Nat) (u1 : St × St × St × St × St) (K : St → St → St → St → St → Option ((Int32 ⊕ Nat) × (St × St × St × St × St))) : Prop := ∀ (x y t k b : St) (H : Heap) (locs : List Loc) (ls : Array Slot), va_P D vwCl (wX4 a4 a2 a1 a3 a0 cI cZ (x, y, t, k, b)) H → va_D A (wX4 a4 a2 a1 a3 a0 cI cZ (x, y, t, k, b)) → va_S A s.heap H locs → lv_has ls 4 [] → K x y t k b = some (res, u1) → W p l e ({ frames := 7, cells := 2, slots := 12, locals := 104 } : Room) s m args below meth c H locs 1 6 (vx_MQ below (xI D cI cZ (wX4 a4 a2 a1 a3 a0 cI cZ) A res u1) (xX D cI cZ (wX4 a4 a2 a1 a3 a0 cI cZ) A res u1) args s 2 12 A) (F0 m 22 ls [])
set_option maxHeartbeats 4000000 in
set_option maxRecDepth 100000 in
theorem k_X4_typeSymbol_22 {p : Program} {l : Launch} {e : Env} {s : State} {m : MethodId} {args : Array Value} {below : List Frame} {meth : Method} {c : Code} {D : va_G} {cI cZ : ClassId} {sa : Nat → Nat} {a4 a2 a1 a3 a0 : Nat → Nat} {A : Nat → Prop} {res : Int32 ⊕ Nat} {u1 : St × St × St × St × St} (C0 : mX l p s m args meth c D cI cZ sa A cX4_typeSymbol 4 (some .int) wsX4_typeSymbol RX4) (N : Nat) : KP_X4_typeSymbol_22 p l e s m args below meth c D cI cZ a4 a2 a1 a3 a0 A res u1 (f_X4_typeSymbol_22 N) := by
  obtain ⟨⟨hx, hb, hml, hr, hown, hts, hlocks, hA, hK, hN⟩, hX, hlt, hT⟩ := id C0
  intro x y t k b H locs ls hP hD hS hl h
  unfold f_X4_typeSymbol_22 at h
  obtain ⟨rfl, rfl⟩ := so h
  exact x_throw (is := 93) (text := "no such symbol of the type") (cls := "java/lang/IndexOutOfBoundsException") (lv := []) C0 rfl (by decide +kernel) (by decide +kernel) xw_X4_typeSymbol_95 (by decide +kernel) (by decide +kernel) (by decide +kernel) (by decide +kernel) hP hD hS hl dX4_typeSymbol_22 dX4_typeSymbol_25 dX4_typeSymbol_26 dX4_typeSymbol_28 dX4_typeSymbol_31 (Nat.le_of_ble_eq_true rfl) (Nat.le_of_ble_eq_true rfl) (Nat.le_of_ble_eq_true rfl) (Nat.le_of_ble_eq_true rfl) (by decide) (by decide)
set_option maxHeartbeats 4000000 in
set_option maxRecDepth 100000 in
theorem c_X4_typeSymbol (l : Launch) (hlt : l.stackTraces = false) (D : va_G) (cI cZ : ClassId) (sa : Nat → Nat) (a4 a2 a1 a3 a0 : Nat → Nat) (N : Nat) (x y t k b : St) (x1 x2 : Int32) : XI l yX4_typeSymbol wsX4_typeSymbol ({ frames := 7, cells := 2, slots := 12, locals := 104 } : Room) D cI cZ sa (wX4 a4 a2 a1 a3 a0 cI cZ) [.ref (a4 0), .int x1, .int x2] (x, y, t, k, b) 2 12 (f_X4_typeSymbol N x y t k b x1 x2) := by
  refine XI.of (cc := cX4_typeSymbol) (maxL := 4) (ret := (some .int)) (own := RX4) hlt (by decide) rfl rfl (Nat.le_of_ble_eq_true rfl) ?_
  intro res u1 h p e s m args below meth c A C0 H locs ls hP hD hS hl
  obtain ⟨⟨hx, hb, hml, hr, hown, hts, hlocks, hA, hK, hN⟩, hX, hlt, hT⟩ := id C0
  have hl : lv_has ls 4 [(0, .ref (a4 0)), (1, .int x1), (2, .int x2)] := hl
  unfold f_X4_typeSymbol at h
  refine lv_aload_n hx hb dX4_typeSymbol_0 rfl (lv_at hl 0 rfl) ?_
  refine lv_iload_n hx hb dX4_typeSymbol_1 rfl (lv_at hl 1 rfl) ?_
  obtain ⟨q1, hq1, h⟩ := ob h
  refine mx_i (uo := (q1.2.1, q1.2.2.1, q1.2.2.2.1, q1.2.2.2.2.1, q1.2.2.2.2.2)) (wr := ([] : va_W)) [0, 1, 2, 3, 4, 5, 6, 7, 8, 9, 10, 11, 12, 13, 14, 15, 16, 17, 18, 19, 20, 21, 22, 23, 24, 25, 26, 27, 28] [] [0, 1, 2, 3, 4, 5, 6, 7, 8, 9, 10, 11, 12, 13, 14, 15, 16, 17, 18, 19, 20, 21, 22, 23, 24, 25, 26, 27, 28] (vx_runV (As := [.int x1]) (rest := []) ⟨hx, hb, hml, hown, hts⟩ (c_X4_typeBehind l hlt D cI cZ sa a4 a2 a1 a3 a0 N x y t k b x1 q1.1 q1.2 hq1 H.size) (cwV 1 hts gX4_typeSymbol_X4_typeBehind rfl rfl rfl (by decide +kernel) ⟨Nat.le_of_ble_eq_true rfl, Nat.le_of_ble_eq_true rfl⟩) (pXV [0, 1, 2, 3, 4, 5, 6, 7, 8, 9, 10, 11, 12, 13, 14, 15, 16, 17, 18, 19, 20, 21, 22, 23, 24, 25, 26, 27, 28] hP hD hS hA hK hN hX rfl rfl rfl rfl) rfl rfl hl.1 rfl (lv_room (Nat.le_of_ble_eq_true rfl)) dX4_typeSymbol_2 ⟨Nat.le_of_ble_eq_true rfl, Nat.le_of_ble_eq_true rfl⟩) hT hlocks hK hP hD hS hA rfl rfl rfl (by decide) rfl rfl (by decide) (by decide) (fun k9 hk9 => by rw [hk9] at h; exact h) (fun r2 hr9 H locs hP hD hS => ?_)
  rw [hr9, ex_inl] at h
  refine lv_istore_n (lv' := [(3, .int r2), (0, .ref (a4 0)), (1, .int x1), (2, .int x2)]) hx hb dX4_typeSymbol_5 rfl hl (by decide) rfl (fun ls hl => ?_)
  refine lv_iload_n hx hb dX4_typeSymbol_6 rfl (lv_at hl 3 rfl) ?_
  refine lv_if_lt (tgt := 22) hx hb dX4_typeSymbol_7 (by decide) (fun hc3 => ?_) (fun hc3 => ?_)
  · rw [if_pos hc3] at h
    refine W.widen (k := 1) (n := 6) (by decide) (by decide) ?_
    exact k_X4_typeSymbol_22 C0 N q1.2.1 q1.2.2.1 q1.2.2.2.1 q1.2.2.2.2.1 q1.2.2.2.2.2 _ _ _ hP hD hS (lv_sub hl [] rfl) h
  · rw [if_neg hc3] at h
    refine lv_iload_n hx hb dX4_typeSymbol_10 rfl (lv_at hl 3 rfl) ?_
    refine lv_aload_n hx hb dX4_typeSymbol_11 rfl (lv_at hl 1 rfl) ?_
    refine va_get (D := D) (ci := 4) (v := .ref (a2 0)) (C := RX4) (T := TX4) (N := 7) hx hb hts in_X4_typeSymbol_X4 hown hK hP 0 rfl rfl 0 (by decide) (hts (.fieldLink RX4 10 "TermLoom" "types" "LTermLoom$TypeTable;") (by decide +kernel)) (fun _ h9 => h9) rfl dX4_typeSymbol_12 ?_
    refine lv_iload_n hx hb dX4_typeSymbol_15 rfl (lv_at hl 0 rfl) ?_
    obtain ⟨q4, hq4, h⟩ := ob h
    refine mg_i (ws' := wX4 a4 a2 a1 a3 a0 cI cZ (q1.2.1, q4.2, q1.2.2.2.1, q1.2.2.2.2.1, q1.2.2.2.2.2)) (wr := ((wX4o a4 a2 a1 a0 cI cZ q1.2.1) ++ (wX1o a1 a3 cI cZ q1.2.2.2.1) ++ (wX3o a3 cI cZ q1.2.2.2.2.1) ++ (wX0o a0 cI cZ q1.2.2.2.2.2) : va_W)) [3, 4, 5, 6, 7, 8, 9, 10, 11, 12, 13] [0, 1, 2, 14, 15, 16, 17, 18, 19, 20, 21, 22, 23, 24, 25, 26, 27, 28] [0, 1, 2, 18, 19, 20, 21, 22, 23, 24, 25, 26, 27, 28, 3, 4, 5, 6, 7, 8, 9, 10, 11, 12, 13, 14, 15, 16, 17] (va_runV (As := [.int r2]) (rest := [.int x2]) ⟨hx, hb, hml, hown, hts⟩ (c_X2_symbols l D cI cZ a2 N q1.2.2.1 r2 q4.1 q4.2 hq4 H.size) (cwV 1 hts gX4_typeSymbol_X2_symbols rfl rfl rfl (by decide +kernel) ⟨Nat.le_of_ble_eq_true rfl, Nat.le_of_ble_eq_true rfl⟩) (pV [3, 4, 5, 6, 7, 8, 9, 10, 11, 12, 13] hP hD hK hN rfl rfl rfl rfl) rfl rfl hl.1 rfl (lv_room (Nat.le_of_ble_eq_true rfl)) dX4_typeSymbol_16 ⟨Nat.le_of_ble_eq_true rfl, Nat.le_of_ble_eq_true rfl⟩) hP hD hS hA rfl rfl rfl (by decide) rfl rfl (fun H locs hP hD hS => ?_)
    refine lv_icmp_lt (tgt := 32) hx hb dX4_typeSymbol_19 (by decide) (fun hc5 => ?_) (fun hc5 => ?_)
    · rw [if_pos hc5] at h
      refine lv_aload_n hx hb dX4_typeSymbol_32 rfl (lv_at hl 1 rfl) ?_
      refine va_get (D := D) (ci := 4) (v := .ref (a2 0)) (C := RX4) (T := TX4) (N := 7) hx hb hts in_X4_typeSymbol_X4 hown hK hP 0 rfl rfl 0 (by decide) (hts (.fieldLink RX4 10 "TermLoom" "types" "LTermLoom$TypeTable;") (by decide +kernel)) (fun _ h9 => h9) rfl dX4_typeSymbol_33 ?_
      refine lv_iload_n hx hb dX4_typeSymbol_36 rfl (lv_at hl 0 rfl) ?_
      refine lv_iload_n hx hb dX4_typeSymbol_37 rfl (lv_at hl 3 rfl) ?_
      obtain ⟨q6, hq6, h⟩ := ob h
      refine mg_i (ws' := wX4 a4 a2 a1 a3 a0 cI cZ (q1.2.1, q6.2, q1.2.2.2.1, q1.2.2.2.2.1, q1.2.2.2.2.2)) (wr := ((wX4o a4 a2 a1 a0 cI cZ q1.2.1) ++ (wX1o a1 a3 cI cZ q1.2.2.2.1) ++ (wX3o a3 cI cZ q1.2.2.2.2.1) ++ (wX0o a0 cI cZ q1.2.2.2.2.2) : va_W)) [3, 4, 5, 6, 7, 8, 9, 10, 11, 12, 13] [0, 1, 2, 14, 15, 16, 17, 18, 19, 20, 21, 22, 23, 24, 25, 26, 27, 28] [0, 1, 2, 18, 19, 20, 21, 22, 23, 24, 25, 26, 27, 28, 3, 4, 5, 6, 7, 8, 9, 10, 11, 12, 13, 14, 15, 16, 17] (va_runV (As := [.int r2, .int x2]) (rest := []) ⟨hx, hb, hml, hown, hts⟩ (c_X2_headAt l D cI cZ a2 N q4.2 r2 x2 q6.1 q6.2 hq6 H.size) (cwV 2 hts gX4_typeSymbol_X2_headAt rfl rfl rfl (by decide +kernel) ⟨Nat.le_of_ble_eq_true rfl, Nat.le_of_ble_eq_true rfl⟩) (pV [3, 4, 5, 6, 7, 8, 9, 10, 11, 12, 13] hP hD hK hN rfl rfl rfl rfl) rfl rfl hl.1 rfl (lv_room (Nat.le_of_ble_eq_true rfl)) dX4_typeSymbol_38 ⟨Nat.le_of_ble_eq_true rfl, Nat.le_of_ble_eq_true rfl⟩) hP hD hS hA rfl rfl rfl (by decide) rfl rfl (fun H locs hP hD hS => ?_)
      obtain ⟨rfl, rfl⟩ := so h
      exact xret_i C0 hP hD hS dX4_typeSymbol_41 (by decide) (by decide)
    · rw [if_neg hc5] at h
      refine W.widen (k := 1) (n := 6) (by decide) (by decide) ?_
      exact k_X4_typeSymbol_22 C0 N q1.2.1 q4.2 q1.2.2.2.1 q1.2.2.2.2.1 q1.2.2.2.2.2 _ _ _ hP hD hS (lv_sub hl [] rfl) h

theorem in_X4_declare_X4 : ∀ w ∈ u_ws RX4 TX4 7, w ∈ wsX4_declare := by decide +kernel
theorem xw_X4_declare_55 : ∀ w ∈ (vx_atS RX4 55 "java/lang/IllegalStateException" ["java/lang/RuntimeException", "java/lang/Exception"]).filter goodWord, w ∈ wsX4_declare := by decide +kernel
def f_X4_declare_23 (N : Nat) (x y t k b : St) : Option ((Int32 ⊕ Nat) × (St × St × St × St × St)) := some (.inr 1, (x, y, t, k, b))
def f_X4_declare (N : Nat) (x y t k b : St) (x1 : Int32) : Option ((Int32 ⊕ Nat) × (St × St × St × St × St)) := (f_X4_typeBehind N x y t k b x1).bind (fun q1 => ex q1.1 (q1.2.1, q1.2.2.1, q1.2.2.2.1, q1.2.2.2.2.1, q1.2.2.2.2.2) (fun r2 => if (q1.2.1 6 0) < 0 then f_X4_declare_23 N q1.2.1 q1.2.2.1 q1.2.2.2.1 q1.2.2.2.2.1 q1.2.2.2.2.2 else if (q1.2.1 6 0) < 200 then if (q1.2.1 6 0) < 0 ∨ 200 ≤ ((q1.2.1 6 0)).toNatClampNeg then none else bnd (up2 q1.2.1 4 ((q1.2.1 6 0)).toNatClampNeg r2) (fun x5 => bnd (up2 x5 6 0 ((x5 6 0) + 1)) (fun x6 => some (.inl ((x6 6 0) - 1), (x6, q1.2.2.1, q1.2.2.2.1, q1.2.2.2.2.1, q1.2.2.2.2.2)))) else f_X4_declare_23 N q1.2.1 q1.2.2.1 q1.2.2.2.1 q1.2.2.2.2.1 q1.2.2.2.2.2))
abbrev KP_X4_declare_23 (p : Program) (l : Launch) (e : Env) (s : State) (m : MethodId) (args : Array Value) (below : List Frame) (meth : Method) (c : Code) (D : va_G) (cI cZ : ClassId) (a4 a2 a1 a3 a0 : Nat → Nat) (A : Nat → Prop) (res : Int32 ⊕ Nat) (u1 : St × St × St × St × St) (K : St → St → St → St → St → Option ((Int32 ⊕ Nat) × (St × St × St × St × St))) : Prop := ∀ (x y t k b : St) (H : Heap) (locs : List Loc) (ls : Array Slot), va_P D vwCl (wX4 a4 a2 a1 a3 a0 cI cZ (x, y, t, k, b)) H → va_D A (wX4 a4 a2 a1 a3 a0 cI cZ (x, y, t, k, b)) → va_S A s.heap H locs → lv_has ls 3 [] → K x y t k b = some (res, u1) → W p l e ({ frames := 7, cells := 2, slots := 12, locals := 104 } : Room) s m args below meth c H locs 1 6 (vx_MQ below (xI D cI cZ (wX4 a4 a2 a1 a3 a0 cI cZ) A res u1) (xX D cI cZ (wX4 a4 a2 a1 a3 a0 cI cZ) A res u1) args s 2 12 A) (F0 m 23 ls [])
set_option maxHeartbeats 4000000 in
set_option maxRecDepth 100000 in
theorem k_X4_declare_23 {p : Program} {l : Launch} {e : Env} {s : State} {m : MethodId} {args : Array Value} {below : List Frame} {meth : Method} {c : Code} {D : va_G} {cI cZ : ClassId} {sa : Nat → Nat} {a4 a2 a1 a3 a0 : Nat → Nat} {A : Nat → Prop} {res : Int32 ⊕ Nat} {u1 : St × St × St × St × St} (C0 : mX l p s m args meth c D cI cZ sa A cX4_declare 3 (some .int) wsX4_declare RX4) (N : Nat) : KP_X4_declare_23 p l e s m args below meth c D cI cZ a4 a2 a1 a3 a0 A res u1 (f_X4_declare_23 N) := by
  obtain ⟨⟨hx, hb, hml, hr, hown, hts, hlocks, hA, hK, hN⟩, hX, hlt, hT⟩ := id C0
  intro x y t k b H locs ls hP hD hS hl h
  unfold f_X4_declare_23 at h
  obtain ⟨rfl, rfl⟩ := so h
  exact x_throw (is := 99) (text := "there are 200 constants") (cls := "java/lang/IllegalStateException") (lv := []) C0 rfl (by decide +kernel) (by decide +kernel) xw_X4_declare_55 (by decide +kernel) (by decide +kernel) (by decide +kernel) (by decide +kernel) hP hD hS hl dX4_declare_23 dX4_declare_26 dX4_declare_27 dX4_declare_29 dX4_declare_32 (Nat.le_of_ble_eq_true rfl) (Nat.le_of_ble_eq_true rfl) (Nat.le_of_ble_eq_true rfl) (Nat.le_of_ble_eq_true rfl) (by decide) (by decide)
set_option maxHeartbeats 4000000 in
set_option maxRecDepth 100000 in
theorem c_X4_declare (l : Launch) (hlt : l.stackTraces = false) (D : va_G) (cI cZ : ClassId) (sa : Nat → Nat) (a4 a2 a1 a3 a0 : Nat → Nat) (N : Nat) (x y t k b : St) (x1 : Int32) : XI l yX4_declare wsX4_declare ({ frames := 7, cells := 2, slots := 12, locals := 104 } : Room) D cI cZ sa (wX4 a4 a2 a1 a3 a0 cI cZ) [.ref (a4 0), .int x1] (x, y, t, k, b) 2 12 (f_X4_declare N x y t k b x1) := by
  refine XI.of (cc := cX4_declare) (maxL := 3) (ret := (some .int)) (own := RX4) hlt (by decide) rfl rfl (Nat.le_of_ble_eq_true rfl) ?_
  intro res u1 h p e s m args below meth c A C0 H locs ls hP hD hS hl
  obtain ⟨⟨hx, hb, hml, hr, hown, hts, hlocks, hA, hK, hN⟩, hX, hlt, hT⟩ := id C0
  have hl : lv_has ls 3 [(0, .ref (a4 0)), (1, .int x1)] := hl
  unfold f_X4_declare at h
  refine lv_aload_n hx hb dX4_declare_0 rfl (lv_at hl 0 rfl) ?_
  refine lv_iload_n hx hb dX4_declare_1 rfl (lv_at hl 1 rfl) ?_
  obtain ⟨q1, hq1, h⟩ := ob h
  refine mx_i (uo := (q1.2.1, q1.2.2.1, q1.2.2.2.1, q1.2.2.2.2.1, q1.2.2.2.2.2)) (wr := ([] : va_W)) [0, 1, 2, 3, 4, 5, 6, 7, 8, 9, 10, 11, 12, 13, 14, 15, 16, 17, 18, 19, 20, 21, 22, 23, 24, 25, 26, 27, 28] [] [0, 1, 2, 3, 4, 5, 6, 7, 8, 9, 10, 11, 12, 13, 14, 15, 16, 17, 18, 19, 20, 21, 22, 23, 24, 25, 26, 27, 28] (vx_runV (As := [.int x1]) (rest := []) ⟨hx, hb, hml, hown, hts⟩ (c_X4_typeBehind l hlt D cI cZ sa a4 a2 a1 a3 a0 N x y t k b x1 q1.1 q1.2 hq1 H.size) (cwV 1 hts gX4_declare_X4_typeBehind rfl rfl rfl (by decide +kernel) ⟨Nat.le_of_ble_eq_true rfl, Nat.le_of_ble_eq_true rfl⟩) (pXV [0, 1, 2, 3, 4, 5, 6, 7, 8, 9, 10, 11, 12, 13, 14, 15, 16, 17, 18, 19, 20, 21, 22, 23, 24, 25, 26, 27, 28] hP hD hS hA hK hN hX rfl rfl rfl rfl) rfl rfl hl.1 rfl (lv_room (Nat.le_of_ble_eq_true rfl)) dX4_declare_2 ⟨Nat.le_of_ble_eq_true rfl, Nat.le_of_ble_eq_true rfl⟩) hT hlocks hK hP hD hS hA rfl rfl rfl (by decide) rfl rfl (by decide) (by decide) (fun k9 hk9 => by rw [hk9] at h; exact h) (fun r2 hr9 H locs hP hD hS => ?_)
  rw [hr9, ex_inl] at h
  refine lv_istore_n (lv' := [(2, .int r2), (0, .ref (a4 0)), (1, .int x1)]) hx hb dX4_declare_5 rfl hl (by decide) rfl (fun ls hl => ?_)
  refine lv_aload_n hx hb dX4_declare_6 rfl (lv_at hl 1 rfl) ?_
  refine va_get (D := D) (ci := 4) (v := .int (q1.2.1 6 0)) (C := RX4) (T := TX4) (N := 7) hx hb hts in_X4_declare_X4 hown hK hP 0 rfl rfl 6 (by decide) (hts (.fieldLink RX4 41 "TermLoom" "constants" "I") (by decide +kernel)) (fun _ h9 => h9) rfl dX4_declare_7 ?_
  refine lv_if_lt (tgt := 23) hx hb dX4_declare_10 (by decide) (fun hc3 => ?_) (fun hc3 => ?_)
  · rw [if_pos hc3] at h
    refine W.widen (k := 1) (n := 6) (by decide) (by decide) ?_
    exact k_X4_declare_23 C0 N q1.2.1 q1.2.2.1 q1.2.2.2.1 q1.2.2.2.2.1 q1.2.2.2.2.2 _ _ _ hP hD hS (lv_sub hl [] rfl) h
  · rw [if_neg hc3] at h
    refine lv_aload_n hx hb dX4_declare_13 rfl (lv_at hl 1 rfl) ?_
    refine va_get (D := D) (ci := 4) (v := .int (q1.2.1 6 0)) (C := RX4) (T := TX4) (N := 7) hx hb hts in_X4_declare_X4 hown hK hP 0 rfl rfl 6 (by decide) (hts (.fieldLink RX4 41 "TermLoom" "constants" "I") (by decide +kernel)) (fun _ h9 => h9) rfl dX4_declare_14 ?_
    refine lv_sipush (v := 200) hx hb dX4_declare_17 rfl ?_
    refine lv_icmp_lt (tgt := 33) hx hb dX4_declare_20 (by decide) (fun hc4 => ?_) (fun hc4 => ?_)
    · rw [if_pos hc4] at h
      refine lv_aload_n hx hb dX4_declare_33 rfl (lv_at hl 1 rfl) ?_
      refine va_get (D := D) (ci := 4) (v := .ref (a4 5)) (C := RX4) (T := TX4) (N := 7) hx hb hts in_X4_declare_X4 hown hK hP 0 rfl rfl 4 (by decide) (hts (.fieldLink RX4 34 "TermLoom" "declared" "[I") (by decide +kernel)) (fun _ h9 => h9) rfl dX4_declare_34 ?_
      refine lv_aload_n hx hb dX4_declare_37 rfl (lv_at hl 1 rfl) ?_
      refine va_get (D := D) (ci := 4) (v := .int (q1.2.1 6 0)) (C := RX4) (T := TX4) (N := 7) hx hb hts in_X4_declare_X4 hown hK hP 0 rfl rfl 6 (by decide) (hts (.fieldLink RX4 41 "TermLoom" "constants" "I") (by decide +kernel)) (fun _ h9 => h9) rfl dX4_declare_38 ?_
      refine lv_iload_n hx hb dX4_declare_41 rfl (lv_at hl 0 rfl) ?_
      by_cases hi : (q1.2.1 6 0) < 0 ∨ 200 ≤ ((q1.2.1 6 0)).toNatClampNeg
      · rw [if_pos hi] at h; exact no h
      rw [if_neg hi] at h
      refine va_iast (f := (q1.2.1 4)) hx hb hK hP hD hS 2 0 rfl rfl (i := (q1.2.1 6 0)) (x := r2) hi dX4_declare_42 (fun H locs hP hD hS => ?_)
      obtain ⟨x5, ex5, h⟩ := bn h
      have hP : va_P D vwCl (wX4 a4 a2 a1 a3 a0 cI cZ (x5, q1.2.2.1, q1.2.2.2.1, q1.2.2.2.2.1, q1.2.2.2.2.2)) H := by rw [ex5]; exact hP
      have hD : va_D A (wX4 a4 a2 a1 a3 a0 cI cZ (x5, q1.2.2.1, q1.2.2.2.1, q1.2.2.2.2.1, q1.2.2.2.2.2)) := by rw [ex5]; exact hD
      refine lv_aload_n hx hb dX4_declare_43 rfl (lv_at hl 1 rfl) ?_
      refine lv_dup hx hb dX4_declare_44 rfl ?_
      refine va_get (D := D) (ci := 4) (v := .int (x5 6 0)) (C := RX4) (T := TX4) (N := 7) hx hb hts in_X4_declare_X4 hown hK hP 0 rfl rfl 6 (by decide) (hts (.fieldLink RX4 41 "TermLoom" "constants" "I") (by decide +kernel)) (fun _ h9 => h9) rfl dX4_declare_45 ?_
      refine lv_iconst (v := 1) hx hb dX4_declare_48 rfl ?_
      refine lv_iadd hx hb dX4_declare_49 ?_
      refine va_put (D := D) (ci := 4) (v := .int ((x5 6 0) + 1)) (ty := .int) (C := RX4) (T := TX4) (N := 7) hx hb hts in_X4_declare_X4 tyX4 tyX4_ok nmX4 hown hK hP hD hS 0 rfl rfl 6 (by decide) (hts (.fieldLink RX4 41 "TermLoom" "constants" "I") (by decide +kernel)) (fun _ h9 => h9) rfl (by decide +kernel) rfl rfl (Nat.le_of_ble_eq_true rfl) dX4_declare_50 (fun H locs hP hD hS => ?_)
      obtain ⟨x6, ex6, h⟩ := bn h
      have hP : va_P D vwCl (wX4 a4 a2 a1 a3 a0 cI cZ (x6, q1.2.2.1, q1.2.2.2.1, q1.2.2.2.2.1, q1.2.2.2.2.2)) H := by rw [ex6]; exact hP
      have hD : va_D A (wX4 a4 a2 a1 a3 a0 cI cZ (x6, q1.2.2.1, q1.2.2.2.1, q1.2.2.2.2.1, q1.2.2.2.2.2)) := by rw [ex6]; exact hD
      refine lv_aload_n hx hb dX4_declare_53 rfl (lv_at hl 1 rfl) ?_
      refine va_get (D := D) (ci := 4) (v := .int (x6 6 0)) (C := RX4) (T := TX4) (N := 7) hx hb hts in_X4_declare_X4 hown hK hP 0 rfl rfl 6 (by decide) (hts (.fieldLink RX4 41 "TermLoom" "constants" "I") (by decide +kernel)) (fun _ h9 => h9) rfl dX4_declare_54 ?_
      refine lv_iconst (v := 1) hx hb dX4_declare_57 rfl ?_
      refine lv_isub hx hb dX4_declare_58 ?_
      obtain ⟨rfl, rfl⟩ := so h
      exact xret_i C0 hP hD hS dX4_declare_59 (by decide) (by decide)
    · rw [if_neg hc4] at h
      refine W.widen (k := 1) (n := 6) (by decide) (by decide) ?_
      exact k_X4_declare_23 C0 N q1.2.1 q1.2.2.1 q1.2.2.2.1 q1.2.2.2.2.1 q1.2.2.2.2.2 _ _ _ hP hD hS (lv_sub hl [] rfl) h
