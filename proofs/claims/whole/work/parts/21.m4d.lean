theorem in_X4_typeOf_X4 : ∀ w ∈ u_ws RX4 TX4 7, w ∈ wsX4_typeOf := by decide +kernel
def f_X4_typeOf (N : Nat) (x y t k b : St) (x1 : Int32) : Option ((Int32 ⊕ Nat) × (St × St × St × St × St)) := (f_X4_requireTerm N x y t k b x1).bind (fun q1 => ex q1.1 (q1.2.1, q1.2.2.1, q1.2.2.2.1, q1.2.2.2.2.1, q1.2.2.2.2.2) (fun r2 => (f_X1_rootType N q1.2.2.2.1 q1.2.2.2.2.1 x1).bind (fun q3 => (f_X2_keep N q1.2.2.1 q3.1).bind (fun q4 => (f_X2_count N q4.2).bind (fun q5 => (f_X4_settled N q1.2.1 q5.2 q3.2.1 q3.2.2 q1.2.2.2.2.2 q4.1 q5.1).bind (fun q6 => ex q6.1 (q6.2.1, q6.2.2.1, q6.2.2.2.1, q6.2.2.2.2.1, q6.2.2.2.2.2) (fun r7 => some (.inl r7, (q6.2.1, q6.2.2.1, q6.2.2.2.1, q6.2.2.2.2.1, q6.2.2.2.2.2)))))))))
set_option maxHeartbeats 4000000 in
set_option maxRecDepth 100000 in
theorem c_X4_typeOf (l : Launch) (hlt : l.stackTraces = false) (D : va_G) (cI cZ : ClassId) (sa : Nat → Nat) (a4 a2 a1 a3 a0 : Nat → Nat) (N : Nat) (x y t k b : St) (x1 : Int32) : XI l yX4_typeOf wsX4_typeOf ({ frames := 7, cells := 2, slots := 12, locals := 104 } : Room) D cI cZ sa (wX4 a4 a2 a1 a3 a0 cI cZ) [.ref (a4 0), .int x1] (x, y, t, k, b) 2 12 (f_X4_typeOf N x y t k b x1) := by
  refine XI.of (cc := cX4_typeOf) (maxL := 2) (ret := (some .int)) (own := RX4) hlt (by decide) rfl rfl (Nat.le_of_ble_eq_true rfl) ?_
  intro res u1 h p e s m args below meth c A C0 H locs ls hP hD hS hl
  obtain ⟨⟨hx, hb, hml, hr, hown, hts, hlocks, hA, hK, hN⟩, hX, hlt, hT⟩ := id C0
  have hl : lv_has ls 2 [(0, .ref (a4 0)), (1, .int x1)] := hl
  unfold f_X4_typeOf at h
  refine lv_aload_n hx hb dX4_typeOf_0 rfl (lv_at hl 0 rfl) ?_
  refine lv_iload_n hx hb dX4_typeOf_1 rfl (lv_at hl 1 rfl) ?_
  obtain ⟨q1, hq1, h⟩ := ob h
  refine mx_v (uo := (q1.2.1, q1.2.2.1, q1.2.2.2.1, q1.2.2.2.2.1, q1.2.2.2.2.2)) (wr := ([] : va_W)) [0, 1, 2, 3, 4, 5, 6, 7, 8, 9, 10, 11, 12, 13, 14, 15, 16, 17, 18, 19, 20, 21, 22, 23, 24, 25, 26, 27, 28] [] [0, 1, 2, 3, 4, 5, 6, 7, 8, 9, 10, 11, 12, 13, 14, 15, 16, 17, 18, 19, 20, 21, 22, 23, 24, 25, 26, 27, 28] (vx_runV (As := [.int x1]) (rest := []) ⟨hx, hb, hml, hown, hts⟩ (c_X4_requireTerm l hlt D cI cZ sa a4 a2 a1 a3 a0 N x y t k b x1 q1.1 q1.2 hq1 H.size) (cwV 1 hts gX4_typeOf_X4_requireTerm rfl rfl rfl (by decide +kernel) ⟨Nat.le_of_ble_eq_true rfl, Nat.le_of_ble_eq_true rfl⟩) (pXV [0, 1, 2, 3, 4, 5, 6, 7, 8, 9, 10, 11, 12, 13, 14, 15, 16, 17, 18, 19, 20, 21, 22, 23, 24, 25, 26, 27, 28] hP hD hS hA hK hN hX rfl rfl rfl rfl) rfl rfl hl.1 rfl (lv_room (Nat.le_of_ble_eq_true rfl)) dX4_typeOf_2 ⟨Nat.le_of_ble_eq_true rfl, Nat.le_of_ble_eq_true rfl⟩) hT hlocks hK hP hD hS hA rfl rfl rfl (by decide) rfl rfl (by decide) (by decide) (fun k9 hk9 => by rw [hk9] at h; exact h) (fun r2 hr9 H locs hP hD hS => ?_)
  rw [hr9, ex_inl] at h
  refine lv_aload_n hx hb dX4_typeOf_5 rfl (lv_at hl 0 rfl) ?_
  refine lv_aload_n hx hb dX4_typeOf_6 rfl (lv_at hl 0 rfl) ?_
  refine va_get (D := D) (ci := 4) (v := .ref (a2 0)) (C := RX4) (T := TX4) (N := 7) hx hb hts in_X4_typeOf_X4 hown hK hP 0 rfl rfl 0 (by decide) (hts (.fieldLink RX4 10 "TermLoom" "types" "LTermLoom$TypeTable;") (by decide +kernel)) (fun _ h9 => h9) rfl dX4_typeOf_7 ?_
  refine lv_aload_n hx hb dX4_typeOf_10 rfl (lv_at hl 0 rfl) ?_
  refine va_get (D := D) (ci := 4) (v := .ref (a1 0)) (C := RX4) (T := TX4) (N := 7) hx hb hts in_X4_typeOf_X4 hown hK hP 0 rfl rfl 1 (by decide) (hts (.fieldLink RX4 19 "TermLoom" "terms" "LTermLoom$TermStore;") (by decide +kernel)) (fun _ h9 => h9) rfl dX4_typeOf_11 ?_
  refine lv_iload_n hx hb dX4_typeOf_14 rfl (lv_at hl 1 rfl) ?_
  obtain ⟨q3, hq3, h⟩ := ob h
  refine mg_i (ws' := wX4 a4 a2 a1 a3 a0 cI cZ (q1.2.1, q1.2.2.1, q3.2.1, q3.2.2, q1.2.2.2.2.2)) (wr := ((wX4o a4 a2 a1 a0 cI cZ q1.2.1) ++ (wX2o a2 cI cZ q1.2.2.1) ++ (wX0o a0 cI cZ q1.2.2.2.2.2) : va_W)) [14, 15, 16, 17, 18, 19, 20, 21] [0, 1, 2, 3, 4, 5, 6, 7, 8, 9, 10, 11, 12, 13, 22, 23, 24, 25, 26, 27, 28] [0, 1, 2, 3, 4, 5, 6, 7, 8, 9, 10, 11, 12, 13, 21, 22, 23, 24, 25, 26, 27, 28, 14, 15, 16, 17, 18, 19, 20] (va_runV (As := [.int x1]) (rest := [.ref (a2 0), .ref (a4 0)]) ⟨hx, hb, hml, hown, hts⟩ (c_X1_rootType l D cI cZ a1 a3 N q1.2.2.2.1 q1.2.2.2.2.1 x1 q3.1 q3.2 hq3 H.size) (cwV 1 hts gX4_typeOf_X1_rootType rfl rfl rfl (by decide +kernel) ⟨Nat.le_of_ble_eq_true rfl, Nat.le_of_ble_eq_true rfl⟩) (pV [14, 15, 16, 17, 18, 19, 20, 21] hP hD hK hN rfl rfl rfl rfl) rfl rfl hl.1 rfl (lv_room (Nat.le_of_ble_eq_true rfl)) dX4_typeOf_15 ⟨Nat.le_of_ble_eq_true rfl, Nat.le_of_ble_eq_true rfl⟩) hP hD hS hA rfl rfl rfl (by decide) rfl rfl (fun H locs hP hD hS => ?_)
  obtain ⟨q4, hq4, h⟩ := ob h
  refine mg_i (ws' := wX4 a4 a2 a1 a3 a0 cI cZ (q1.2.1, q4.2, q3.2.1, q3.2.2, q1.2.2.2.2.2)) (wr := ((wX4o a4 a2 a1 a0 cI cZ q1.2.1) ++ (wX1o a1 a3 cI cZ q3.2.1) ++ (wX3o a3 cI cZ q3.2.2) ++ (wX0o a0 cI cZ q1.2.2.2.2.2) : va_W)) [3, 4, 5, 6, 7, 8, 9, 10, 11, 12, 13] [0, 1, 2, 14, 15, 16, 17, 18, 19, 20, 21, 22, 23, 24, 25, 26, 27, 28] [0, 1, 2, 18, 19, 20, 21, 22, 23, 24, 25, 26, 27, 28, 3, 4, 5, 6, 7, 8, 9, 10, 11, 12, 13, 14, 15, 16, 17] (va_runV (As := [.int q3.1]) (rest := [.ref (a4 0)]) ⟨hx, hb, hml, hown, hts⟩ (c_X2_keep l D cI cZ a2 N q1.2.2.1 q3.1 q4.1 q4.2 hq4 H.size) (cwV 1 hts gX4_typeOf_X2_keep rfl rfl rfl (by decide +kernel) ⟨Nat.le_of_ble_eq_true rfl, Nat.le_of_ble_eq_true rfl⟩) (pV [3, 4, 5, 6, 7, 8, 9, 10, 11, 12, 13] hP hD hK hN rfl rfl rfl rfl) rfl rfl hl.1 rfl (lv_room (Nat.le_of_ble_eq_true rfl)) dX4_typeOf_18 ⟨Nat.le_of_ble_eq_true rfl, Nat.le_of_ble_eq_true rfl⟩) hP hD hS hA rfl rfl rfl (by decide) rfl rfl (fun H locs hP hD hS => ?_)
  refine lv_aload_n hx hb dX4_typeOf_21 rfl (lv_at hl 0 rfl) ?_
  refine va_get (D := D) (ci := 4) (v := .ref (a2 0)) (C := RX4) (T := TX4) (N := 7) hx hb hts in_X4_typeOf_X4 hown hK hP 0 rfl rfl 0 (by decide) (hts (.fieldLink RX4 10 "TermLoom" "types" "LTermLoom$TypeTable;") (by decide +kernel)) (fun _ h9 => h9) rfl dX4_typeOf_22 ?_
  obtain ⟨q5, hq5, h⟩ := ob h
  refine mg_i (ws' := wX4 a4 a2 a1 a3 a0 cI cZ (q1.2.1, q5.2, q3.2.1, q3.2.2, q1.2.2.2.2.2)) (wr := ((wX4o a4 a2 a1 a0 cI cZ q1.2.1) ++ (wX1o a1 a3 cI cZ q3.2.1) ++ (wX3o a3 cI cZ q3.2.2) ++ (wX0o a0 cI cZ q1.2.2.2.2.2) : va_W)) [3, 4, 5, 6, 7, 8, 9, 10, 11, 12, 13] [0, 1, 2, 14, 15, 16, 17, 18, 19, 20, 21, 22, 23, 24, 25, 26, 27, 28] [0, 1, 2, 18, 19, 20, 21, 22, 23, 24, 25, 26, 27, 28, 3, 4, 5, 6, 7, 8, 9, 10, 11, 12, 13, 14, 15, 16, 17] (va_runV (As := []) (rest := [.int q4.1, .ref (a4 0)]) ⟨hx, hb, hml, hown, hts⟩ (c_X2_count l D cI cZ a2 N q4.2 q5.1 q5.2 hq5 H.size) (cwV 0 hts gX4_typeOf_X2_count rfl rfl rfl (by decide +kernel) ⟨Nat.le_of_ble_eq_true rfl, Nat.le_of_ble_eq_true rfl⟩) (pV [3, 4, 5, 6, 7, 8, 9, 10, 11, 12, 13] hP hD hK hN rfl rfl rfl rfl) rfl rfl hl.1 rfl (lv_room (Nat.le_of_ble_eq_true rfl)) dX4_typeOf_25 ⟨Nat.le_of_ble_eq_true rfl, Nat.le_of_ble_eq_true rfl⟩) hP hD hS hA rfl rfl rfl (by decide) rfl rfl (fun H locs hP hD hS => ?_)
  obtain ⟨q6, hq6, h⟩ := ob h
  refine mx_i (uo := (q6.2.1, q6.2.2.1, q6.2.2.2.1, q6.2.2.2.2.1, q6.2.2.2.2.2)) (wr := ([] : va_W)) [0, 1, 2, 3, 4, 5, 6, 7, 8, 9, 10, 11, 12, 13, 14, 15, 16, 17, 18, 19, 20, 21, 22, 23, 24, 25, 26, 27, 28] [] [0, 1, 2, 3, 4, 5, 6, 7, 8, 9, 10, 11, 12, 13, 14, 15, 16, 17, 18, 19, 20, 21, 22, 23, 24, 25, 26, 27, 28] (vx_runV (As := [.int q4.1, .int q5.1]) (rest := []) ⟨hx, hb, hml, hown, hts⟩ (c_X4_settled l hlt D cI cZ sa a4 a2 a1 a3 a0 N q1.2.1 q5.2 q3.2.1 q3.2.2 q1.2.2.2.2.2 q4.1 q5.1 q6.1 q6.2 hq6 H.size) (cwV 2 hts gX4_typeOf_X4_settled rfl rfl rfl (by decide +kernel) ⟨Nat.le_of_ble_eq_true rfl, Nat.le_of_ble_eq_true rfl⟩) (pXV [0, 1, 2, 3, 4, 5, 6, 7, 8, 9, 10, 11, 12, 13, 14, 15, 16, 17, 18, 19, 20, 21, 22, 23, 24, 25, 26, 27, 28] hP hD hS hA hK hN hX rfl rfl rfl rfl) rfl rfl hl.1 rfl (lv_room (Nat.le_of_ble_eq_true rfl)) dX4_typeOf_28 ⟨Nat.le_of_ble_eq_true rfl, Nat.le_of_ble_eq_true rfl⟩) hT hlocks hK hP hD hS hA rfl rfl rfl (by decide) rfl rfl (by decide) (by decide) (fun k9 hk9 => by rw [hk9] at h; exact h) (fun r7 hr9 H locs hP hD hS => ?_)
  rw [hr9, ex_inl] at h
  obtain ⟨rfl, rfl⟩ := so h
  exact xret_i C0 hP hD hS dX4_typeOf_31 (by decide) (by decide)

theorem in_X4_symbol_X4 : ∀ w ∈ u_ws RX4 TX4 7, w ∈ wsX4_symbol := by decide +kernel
theorem xw_X4_symbol_95 : ∀ w ∈ (vx_atS RX4 95 "java/lang/IndexOutOfBoundsException" ["java/lang/RuntimeException", "java/lang/Exception"]).filter goodWord, w ∈ wsX4_symbol := by decide +kernel
def f_X4_symbol_21 (N : Nat) (x y t k b : St) : Option ((Int32 ⊕ Nat) × (St × St × St × St × St)) := some (.inr 2, (x, y, t, k, b))
def f_X4_symbol (N : Nat) (x y t k b : St) (x1 x2 : Int32) : Option ((Int32 ⊕ Nat) × (St × St × St × St × St)) := (f_X4_requireTerm N x y t k b x1).bind (fun q1 => ex q1.1 (q1.2.1, q1.2.2.1, q1.2.2.2.1, q1.2.2.2.2.1, q1.2.2.2.2.2) (fun r2 => if x2 < 0 then f_X4_symbol_21 N q1.2.1 q1.2.2.1 q1.2.2.2.1 q1.2.2.2.2.1 q1.2.2.2.2.2 else (f_X1_length N q1.2.2.2.1 q1.2.2.2.2.1 x1).bind (fun q4 => if x2 < q4.1 then (f_X1_start N q4.2.1 q4.2.2 x1).bind (fun q6 => (f_X1_code N q6.2.1 q6.2.2 (q6.1 + x2)).bind (fun q7 => some (.inl q7.1, (q1.2.1, q1.2.2.1, q7.2.1, q7.2.2, q1.2.2.2.2.2)))) else f_X4_symbol_21 N q1.2.1 q1.2.2.1 q4.2.1 q4.2.2 q1.2.2.2.2.2)))
abbrev KP_X4_symbol_21 (p : Program) (l : Launch) (e : Env) (s : State) (m : MethodId) (args : Array Value) (below : List Frame) (meth : Method) (c : Code) (D : va_G) (cI cZ : ClassId) (a4 a2 a1 a3 a0 : Nat → Nat) (A : Nat → Prop) (res : Int32 ⊕ Nat) (u1 : St × St × St × St × St) (K : St → St → St → St → St → Option ((Int32 ⊕ Nat) × (St × St × St × St × St))) : Prop := ∀ (x y t k b : St) (H : Heap) (locs : List Loc) (ls : Array Slot), va_P D vwCl (wX4 a4 a2 a1 a3 a0 cI cZ (x, y, t, k, b)) H → va_D A (wX4 a4 a2 a1 a3 a0 cI cZ (x, y, t, k, b)) → va_S A s.heap H locs → lv_has ls 3 [] → K x y t k b = some (res, u1) → W p l e ({ frames := 7, cells := 2, slots := 12, locals := 103 } : Room) s m args below meth c H locs 1 6 (vx_MQ below (xI D cI cZ (wX4 a4 a2 a1 a3 a0 cI cZ) A res u1) (xX D cI cZ (wX4 a4 a2 a1 a3 a0 cI cZ) A res u1) args s 2 12 A) (F0 m 21 ls [])
set_option maxHeartbeats 4000000 in
set_option maxRecDepth 100000 in
theorem k_X4_symbol_21 {p : Program} {l : Launch} {e : Env} {s : State} {m : MethodId} {args : Array Value} {below : List Frame} {meth : Method} {c : Code} {D : va_G} {cI cZ : ClassId} {sa : Nat → Nat} {a4 a2 a1 a3 a0 : Nat → Nat} {A : Nat → Prop} {res : Int32 ⊕ Nat} {u1 : St × St × St × St × St} (C0 : mX l p s m args meth c D cI cZ sa A cX4_symbol 3 (some .int) wsX4_symbol RX4) (N : Nat) : KP_X4_symbol_21 p l e s m args below meth c D cI cZ a4 a2 a1 a3 a0 A res u1 (f_X4_symbol_21 N) := by
  obtain ⟨⟨hx, hb, hml, hr, hown, hts, hlocks, hA, hK, hN⟩, hX, hlt, hT⟩ := id C0
  intro x y t k b H locs ls hP hD hS hl h
  unfold f_X4_symbol_21 at h
  obtain ⟨rfl, rfl⟩ := so h
  exact x_throw (is := 195) (text := "no such symbol of the term") (cls := "java/lang/IndexOutOfBoundsException") (lv := []) C0 rfl (by decide +kernel) (by decide +kernel) xw_X4_symbol_95 (by decide +kernel) (by decide +kernel) (by decide +kernel) (by decide +kernel) hP hD hS hl dX4_symbol_21 dX4_symbol_24 dX4_symbol_25 dX4_symbol_27 dX4_symbol_30 (Nat.le_of_ble_eq_true rfl) (Nat.le_of_ble_eq_true rfl) (Nat.le_of_ble_eq_true rfl) (Nat.le_of_ble_eq_true rfl) (by decide) (by decide)
set_option maxHeartbeats 4000000 in
set_option maxRecDepth 100000 in
theorem c_X4_symbol (l : Launch) (hlt : l.stackTraces = false) (D : va_G) (cI cZ : ClassId) (sa : Nat → Nat) (a4 a2 a1 a3 a0 : Nat → Nat) (N : Nat) (x y t k b : St) (x1 x2 : Int32) : XI l yX4_symbol wsX4_symbol ({ frames := 7, cells := 2, slots := 12, locals := 103 } : Room) D cI cZ sa (wX4 a4 a2 a1 a3 a0 cI cZ) [.ref (a4 0), .int x1, .int x2] (x, y, t, k, b) 2 12 (f_X4_symbol N x y t k b x1 x2) := by
  refine XI.of (cc := cX4_symbol) (maxL := 3) (ret := (some .int)) (own := RX4) hlt (by decide) rfl rfl (Nat.le_of_ble_eq_true rfl) ?_
  intro res u1 h p e s m args below meth c A C0 H locs ls hP hD hS hl
  obtain ⟨⟨hx, hb, hml, hr, hown, hts, hlocks, hA, hK, hN⟩, hX, hlt, hT⟩ := id C0
  have hl : lv_has ls 3 [(0, .ref (a4 0)), (1, .int x1), (2, .int x2)] := hl
  unfold f_X4_symbol at h
  refine lv_aload_n hx hb dX4_symbol_0 rfl (lv_at hl 0 rfl) ?_
  refine lv_iload_n hx hb dX4_symbol_1 rfl (lv_at hl 1 rfl) ?_
  obtain ⟨q1, hq1, h⟩ := ob h
  refine mx_v (uo := (q1.2.1, q1.2.2.1, q1.2.2.2.1, q1.2.2.2.2.1, q1.2.2.2.2.2)) (wr := ([] : va_W)) [0, 1, 2, 3, 4, 5, 6, 7, 8, 9, 10, 11, 12, 13, 14, 15, 16, 17, 18, 19, 20, 21, 22, 23, 24, 25, 26, 27, 28] [] [0, 1, 2, 3, 4, 5, 6, 7, 8, 9, 10, 11, 12, 13, 14, 15, 16, 17, 18, 19, 20, 21, 22, 23, 24, 25, 26, 27, 28] (vx_runV (As := [.int x1]) (rest := []) ⟨hx, hb, hml, hown, hts⟩ (c_X4_requireTerm l hlt D cI cZ sa a4 a2 a1 a3 a0 N x y t k b x1 q1.1 q1.2 hq1 H.size) (cwV 1 hts gX4_symbol_X4_requireTerm rfl rfl rfl (by decide +kernel) ⟨Nat.le_of_ble_eq_true rfl, Nat.le_of_ble_eq_true rfl⟩) (pXV [0, 1, 2, 3, 4, 5, 6, 7, 8, 9, 10, 11, 12, 13, 14, 15, 16, 17, 18, 19, 20, 21, 22, 23, 24, 25, 26, 27, 28] hP hD hS hA hK hN hX rfl rfl rfl rfl) rfl rfl hl.1 rfl (lv_room (Nat.le_of_ble_eq_true rfl)) dX4_symbol_2 ⟨Nat.le_of_ble_eq_true rfl, Nat.le_of_ble_eq_true rfl⟩) hT hlocks hK hP hD hS hA rfl rfl rfl (by decide) rfl rfl (by decide) (by decide) (fun k9 hk9 => by rw [hk9] at h; exact h) (fun r2 hr9 H locs hP hD hS => ?_)
  rw [hr9, ex_inl] at h
  refine lv_iload_n hx hb dX4_symbol_5 rfl (lv_at hl 2 rfl) ?_
  refine lv_if_lt (tgt := 21) hx hb dX4_symbol_6 (by decide) (fun hc3 => ?_) (fun hc3 => ?_)
  · rw [if_pos hc3] at h
    refine W.widen (k := 1) (n := 6) (by decide) (by decide) ?_
    exact k_X4_symbol_21 C0 N q1.2.1 q1.2.2.1 q1.2.2.2.1 q1.2.2.2.2.1 q1.2.2.2.2.2 _ _ _ hP hD hS (lv_sub hl [] rfl) h
  · rw [if_neg hc3] at h
    refine lv_iload_n hx hb dX4_symbol_9 rfl (lv_at hl 2 rfl) ?_
    refine lv_aload_n hx hb dX4_symbol_10 rfl (lv_at hl 0 rfl) ?_
    refine va_get (D := D) (ci := 4) (v := .ref (a1 0)) (C := RX4) (T := TX4) (N := 7) hx hb hts in_X4_symbol_X4 hown hK hP 0 rfl rfl 1 (by decide) (hts (.fieldLink RX4 19 "TermLoom" "terms" "LTermLoom$TermStore;") (by decide +kernel)) (fun _ h9 => h9) rfl dX4_symbol_11 ?_
    refine lv_iload_n hx hb dX4_symbol_14 rfl (lv_at hl 1 rfl) ?_
    obtain ⟨q4, hq4, h⟩ := ob h
    refine mg_i (ws' := wX4 a4 a2 a1 a3 a0 cI cZ (q1.2.1, q1.2.2.1, q4.2.1, q4.2.2, q1.2.2.2.2.2)) (wr := ((wX4o a4 a2 a1 a0 cI cZ q1.2.1) ++ (wX2o a2 cI cZ q1.2.2.1) ++ (wX0o a0 cI cZ q1.2.2.2.2.2) : va_W)) [14, 15, 16, 17, 18, 19, 20, 21] [0, 1, 2, 3, 4, 5, 6, 7, 8, 9, 10, 11, 12, 13, 22, 23, 24, 25, 26, 27, 28] [0, 1, 2, 3, 4, 5, 6, 7, 8, 9, 10, 11, 12, 13, 21, 22, 23, 24, 25, 26, 27, 28, 14, 15, 16, 17, 18, 19, 20] (va_runV (As := [.int x1]) (rest := [.int x2]) ⟨hx, hb, hml, hown, hts⟩ (c_X1_length l D cI cZ a1 a3 N q1.2.2.2.1 q1.2.2.2.2.1 x1 q4.1 q4.2 hq4 H.size) (cwV 1 hts gX4_symbol_X1_length rfl rfl rfl (by decide +kernel) ⟨Nat.le_of_ble_eq_true rfl, Nat.le_of_ble_eq_true rfl⟩) (pV [14, 15, 16, 17, 18, 19, 20, 21] hP hD hK hN rfl rfl rfl rfl) rfl rfl hl.1 rfl (lv_room (Nat.le_of_ble_eq_true rfl)) dX4_symbol_15 ⟨Nat.le_of_ble_eq_true rfl, Nat.le_of_ble_eq_true rfl⟩) hP hD hS hA rfl rfl rfl (by decide) rfl rfl (fun H locs hP hD hS => ?_)
    refine lv_icmp_lt (tgt := 31) hx hb dX4_symbol_18 (by decide) (fun hc5 => ?_) (fun hc5 => ?_)
    · rw [if_pos hc5] at h
      refine lv_aload_n hx hb dX4_symbol_31 rfl (lv_at hl 0 rfl) ?_
      refine va_get (D := D) (ci := 4) (v := .ref (a1 0)) (C := RX4) (T := TX4) (N := 7) hx hb hts in_X4_symbol_X4 hown hK hP 0 rfl rfl 1 (by decide) (hts (.fieldLink RX4 19 "TermLoom" "terms" "LTermLoom$TermStore;") (by decide +kernel)) (fun _ h9 => h9) rfl dX4_symbol_32 ?_
      refine lv_aload_n hx hb dX4_symbol_35 rfl (lv_at hl 0 rfl) ?_
      refine va_get (D := D) (ci := 4) (v := .ref (a1 0)) (C := RX4) (T := TX4) (N := 7) hx hb hts in_X4_symbol_X4 hown hK hP 0 rfl rfl 1 (by decide) (hts (.fieldLink RX4 19 "TermLoom" "terms" "LTermLoom$TermStore;") (by decide +kernel)) (fun _ h9 => h9) rfl dX4_symbol_36 ?_
      refine lv_iload_n hx hb dX4_symbol_39 rfl (lv_at hl 1 rfl) ?_
      obtain ⟨q6, hq6, h⟩ := ob h
      refine mg_i (ws' := wX4 a4 a2 a1 a3 a0 cI cZ (q1.2.1, q1.2.2.1, q6.2.1, q6.2.2, q1.2.2.2.2.2)) (wr := ((wX4o a4 a2 a1 a0 cI cZ q1.2.1) ++ (wX2o a2 cI cZ q1.2.2.1) ++ (wX0o a0 cI cZ q1.2.2.2.2.2) : va_W)) [14, 15, 16, 17, 18, 19, 20, 21] [0, 1, 2, 3, 4, 5, 6, 7, 8, 9, 10, 11, 12, 13, 22, 23, 24, 25, 26, 27, 28] [0, 1, 2, 3, 4, 5, 6, 7, 8, 9, 10, 11, 12, 13, 21, 22, 23, 24, 25, 26, 27, 28, 14, 15, 16, 17, 18, 19, 20] (va_runV (As := [.int x1]) (rest := [.ref (a1 0)]) ⟨hx, hb, hml, hown, hts⟩ (c_X1_start l D cI cZ a1 a3 N q4.2.1 q4.2.2 x1 q6.1 q6.2 hq6 H.size) (cwV 1 hts gX4_symbol_X1_start rfl rfl rfl (by decide +kernel) ⟨Nat.le_of_ble_eq_true rfl, Nat.le_of_ble_eq_true rfl⟩) (pV [14, 15, 16, 17, 18, 19, 20, 21] hP hD hK hN rfl rfl rfl rfl) rfl rfl hl.1 rfl (lv_room (Nat.le_of_ble_eq_true rfl)) dX4_symbol_40 ⟨Nat.le_of_ble_eq_true rfl, Nat.le_of_ble_eq_true rfl⟩) hP hD hS hA rfl rfl rfl (by decide) rfl rfl (fun H locs hP hD hS => ?_)
      refine lv_iload_n hx hb dX4_symbol_43 rfl (lv_at hl 2 rfl) ?_
      refine lv_iadd hx hb dX4_symbol_44 ?_
      obtain ⟨q7, hq7, h⟩ := ob h
      refine mg_i (ws' := wX4 a4 a2 a1 a3 a0 cI cZ (q1.2.1, q1.2.2.1, q7.2.1, q7.2.2, q1.2.2.2.2.2)) (wr := ((wX4o a4 a2 a1 a0 cI cZ q1.2.1) ++ (wX2o a2 cI cZ q1.2.2.1) ++ (wX0o a0 cI cZ q1.2.2.2.2.2) : va_W)) [14, 15, 16, 17, 18, 19, 20, 21] [0, 1, 2, 3, 4, 5, 6, 7, 8, 9, 10, 11, 12, 13, 22, 23, 24, 25, 26, 27, 28] [0, 1, 2, 3, 4, 5, 6, 7, 8, 9, 10, 11, 12, 13, 21, 22, 23, 24, 25, 26, 27, 28, 14, 15, 16, 17, 18, 19, 20] (va_runV (As := [.int (q6.1 + x2)]) (rest := []) ⟨hx, hb, hml, hown, hts⟩ (c_X1_code l D cI cZ a1 a3 N q6.2.1 q6.2.2 (q6.1 + x2) q7.1 q7.2 hq7 H.size) (cwV 1 hts gX4_symbol_X1_code rfl rfl rfl (by decide +kernel) ⟨Nat.le_of_ble_eq_true rfl, Nat.le_of_ble_eq_true rfl⟩) (pV [14, 15, 16, 17, 18, 19, 20, 21] hP hD hK hN rfl rfl rfl rfl) rfl rfl hl.1 rfl (lv_room (Nat.le_of_ble_eq_true rfl)) dX4_symbol_45 ⟨Nat.le_of_ble_eq_true rfl, Nat.le_of_ble_eq_true rfl⟩) hP hD hS hA rfl rfl rfl (by decide) rfl rfl (fun H locs hP hD hS => ?_)
      obtain ⟨rfl, rfl⟩ := so h
      exact xret_i C0 hP hD hS dX4_symbol_48 (by decide) (by decide)
    · rw [if_neg hc5] at h
      refine W.widen (k := 1) (n := 6) (by decide) (by decide) ?_
      exact k_X4_symbol_21 C0 N q1.2.1 q1.2.2.1 q4.2.1 q4.2.2 q1.2.2.2.2.2 _ _ _ hP hD hS (lv_sub hl [] rfl) h

theorem in_X4_measure_X4 : ∀ w ∈ u_ws RX4 TX4 7, w ∈ wsX4_measure := by decide +kernel
theorem xw_X4_measure_48 : ∀ w ∈ (vx_atS RX4 48 "java/lang/IllegalArgumentException" ["java/lang/RuntimeException", "java/lang/Exception"]).filter goodWord, w ∈ wsX4_measure := by decide +kernel
def f_X4_measure_47 (N : Nat) (x y t k b : St) (s0 : Int32) : Option ((Int32 ⊕ Nat) × (St × St × St × St × St)) := some (.inl s0, (x, y, t, k, b))
def f_X4_measure_24 (N : Nat) (x y t k b : St) (x1 x2 : Int32) : Option ((Int32 ⊕ Nat) × (St × St × St × St × St)) := if x2 = 0 then (f_X1_length N t k x1).bind (fun q3 => f_X4_measure_47 N x y q3.2.1 q3.2.2 b q3.1) else (f_X1_height N t k x1).bind (fun q2 => f_X4_measure_47 N x y q2.2.1 q2.2.2 b q2.1)
def f_X4_measure (N : Nat) (x y t k b : St) (x1 x2 : Int32) : Option ((Int32 ⊕ Nat) × (St × St × St × St × St)) := (f_X4_requireTerm N x y t k b x1).bind (fun q1 => ex q1.1 (q1.2.1, q1.2.2.1, q1.2.2.2.1, q1.2.2.2.2.1, q1.2.2.2.2.2) (fun r2 => if x2 = 0 then f_X4_measure_24 N q1.2.1 q1.2.2.1 q1.2.2.2.1 q1.2.2.2.2.1 q1.2.2.2.2.2 x1 x2 else if x2 = 1 then f_X4_measure_24 N q1.2.1 q1.2.2.1 q1.2.2.2.1 q1.2.2.2.2.1 q1.2.2.2.2.2 x1 x2 else some (.inr 0, (q1.2.1, q1.2.2.1, q1.2.2.2.1, q1.2.2.2.2.1, q1.2.2.2.2.2))))
abbrev KP_X4_measure_47 (p : Program) (l : Launch) (e : Env) (s : State) (m : MethodId) (args : Array Value) (below : List Frame) (meth : Method) (c : Code) (D : va_G) (cI cZ : ClassId) (a4 a2 a1 a3 a0 : Nat → Nat) (A : Nat → Prop) (res : Int32 ⊕ Nat) (u1 : St × St × St × St × St) (K : St → St → St → St → St → Int32 → Option ((Int32 ⊕ Nat) × (St × St × St × St × St))) : Prop := ∀ (x y t k b : St) (s0 : Int32) (H : Heap) (locs : List Loc) (ls : Array Slot), va_P D vwCl (wX4 a4 a2 a1 a3 a0 cI cZ (x, y, t, k, b)) H → va_D A (wX4 a4 a2 a1 a3 a0 cI cZ (x, y, t, k, b)) → va_S A s.heap H locs → lv_has ls 3 [] → K x y t k b s0 = some (res, u1) → W p l e ({ frames := 7, cells := 2, slots := 12, locals := 103 } : Room) s m args below meth c H locs 1 6 (vx_MQ below (xI D cI cZ (wX4 a4 a2 a1 a3 a0 cI cZ) A res u1) (xX D cI cZ (wX4 a4 a2 a1 a3 a0 cI cZ) A res u1) args s 2 12 A) (F0 m 47 ls [.int s0])
abbrev KP_X4_measure_24 (p : Program) (l : Launch) (e : Env) (s : State) (m : MethodId) (args : Array Value) (below : List Frame) (meth : Method) (c : Code) (D : va_G) (cI cZ : ClassId) (a4 a2 a1 a3 a0 : Nat → Nat) (A : Nat → Prop) (res : Int32 ⊕ Nat) (u1 : St × St × St × St × St) (K : St → St → St → St → St → Int32 → Int32 → Option ((Int32 ⊕ Nat) × (St × St × St × St × St))) : Prop := ∀ (x y t k b : St) (x1 x2 : Int32) (H : Heap) (locs : List Loc) (ls : Array Slot), va_P D vwCl (wX4 a4 a2 a1 a3 a0 cI cZ (x, y, t, k, b)) H → va_D A (wX4 a4 a2 a1 a3 a0 cI cZ (x, y, t, k, b)) → va_S A s.heap H locs → lv_has ls 3 [(0, .ref (a4 0)), (1, .int x1), (2, .int x2)] → K x y t k b x1 x2 = some (res, u1) → W p l e ({ frames := 7, cells := 2, slots := 12, locals := 103 } : Room) s m args below meth c H locs 1 6 (vx_MQ below (xI D cI cZ (wX4 a4 a2 a1 a3 a0 cI cZ) A res u1) (xX D cI cZ (wX4 a4 a2 a1 a3 a0 cI cZ) A res u1) args s 2 12 A) (F0 m 24 ls [])
set_option maxHeartbeats 4000000 in
set_option maxRecDepth 100000 in
theorem k_X4_measure_47 {p : Program} {l : Launch} {e : Env} {s : State} {m : MethodId} {args : Array Value} {below : List Frame} {meth : Method} {c : Code} {D : va_G} {cI cZ : ClassId} {sa : Nat → Nat} {a4 a2 a1 a3 a0 : Nat → Nat} {A : Nat → Prop} {res : Int32 ⊕ Nat} {u1 : St × St × St × St × St} (C0 : mX l p s m args meth c D cI cZ sa A cX4_measure 3 (some .int) wsX4_measure RX4) (N : Nat) : KP_X4_measure_47 p l e s m args below meth c D cI cZ a4 a2 a1 a3 a0 A res u1 (f_X4_measure_47 N) := by
  obtain ⟨⟨hx, hb, hml, hr, hown, hts, hlocks, hA, hK, hN⟩, hX, hlt, hT⟩ := id C0
  intro x y t k b s0 H locs ls hP hD hS hl h
  unfold f_X4_measure_47 at h
  obtain ⟨rfl, rfl⟩ := so h
  exact xret_i C0 hP hD hS dX4_measure_47 (by decide) (by decide)
set_option maxHeartbeats 4000000 in
set_option maxRecDepth 100000 in
theorem k_X4_measure_24 {p : Program} {l : Launch} {e : Env} {s : State} {m : MethodId} {args : Array Value} {below : List Frame} {meth : Method} {c : Code} {D : va_G} {cI cZ : ClassId} {sa : Nat → Nat} {a4 a2 a1 a3 a0 : Nat → Nat} {A : Nat → Prop} {res : Int32 ⊕ Nat} {u1 : St × St × St × St × St} (C0 : mX l p s m args meth c D cI cZ sa A cX4_measure 3 (some .int) wsX4_measure RX4) (N : Nat) : KP_X4_measure_24 p l e s m args below meth c D cI cZ a4 a2 a1 a3 a0 A res u1 (f_X4_measure_24 N) := by
  obtain ⟨⟨hx, hb, hml, hr, hown, hts, hlocks, hA, hK, hN⟩, hX, hlt, hT⟩ := id C0
  intro x y t k b x1 x2 H locs ls hP hD hS hl h
  unfold f_X4_measure_24 at h
  refine lv_iload_n hx hb dX4_measure_24 rfl (lv_at hl 2 rfl) ?_
  refine lv_if_ne (tgt := 39) hx hb dX4_measure_25 (by decide) (fun hc1 => ?_) (fun hc1 => ?_)
  · rw [if_neg hc1] at h
    refine lv_aload_n hx hb dX4_measure_39 rfl (lv_at hl 0 rfl) ?_
    refine va_get (D := D) (ci := 4) (v := .ref (a1 0)) (C := RX4) (T := TX4) (N := 7) hx hb hts in_X4_measure_X4 hown hK hP 0 rfl rfl 1 (by decide) (hts (.fieldLink RX4 19 "TermLoom" "terms" "LTermLoom$TermStore;") (by decide +kernel)) (fun _ h9 => h9) rfl dX4_measure_40 ?_
    refine lv_iload_n hx hb dX4_measure_43 rfl (lv_at hl 1 rfl) ?_
    obtain ⟨q2, hq2, h⟩ := ob h
    refine mg_i (ws' := wX4 a4 a2 a1 a3 a0 cI cZ (x, y, q2.2.1, q2.2.2, b)) (wr := ((wX4o a4 a2 a1 a0 cI cZ x) ++ (wX2o a2 cI cZ y) ++ (wX0o a0 cI cZ b) : va_W)) [14, 15, 16, 17, 18, 19, 20, 21] [0, 1, 2, 3, 4, 5, 6, 7, 8, 9, 10, 11, 12, 13, 22, 23, 24, 25, 26, 27, 28] [0, 1, 2, 3, 4, 5, 6, 7, 8, 9, 10, 11, 12, 13, 21, 22, 23, 24, 25, 26, 27, 28, 14, 15, 16, 17, 18, 19, 20] (va_runV (As := [.int x1]) (rest := []) ⟨hx, hb, hml, hown, hts⟩ (c_X1_height l D cI cZ a1 a3 N t k x1 q2.1 q2.2 hq2 H.size) (cwV 1 hts gX4_measure_X1_height rfl rfl rfl (by decide +kernel) ⟨Nat.le_of_ble_eq_true rfl, Nat.le_of_ble_eq_true rfl⟩) (pV [14, 15, 16, 17, 18, 19, 20, 21] hP hD hK hN rfl rfl rfl rfl) rfl rfl hl.1 rfl (lv_room (Nat.le_of_ble_eq_true rfl)) dX4_measure_44 ⟨Nat.le_of_ble_eq_true rfl, Nat.le_of_ble_eq_true rfl⟩) hP hD hS hA rfl rfl rfl (by decide) rfl rfl (fun H locs hP hD hS => ?_)
    refine W.widen (k := 1) (n := 6) (by decide) (by decide) ?_
    exact k_X4_measure_47 C0 N x y q2.2.1 q2.2.2 b q2.1 _ _ _ hP hD hS (lv_sub hl [] rfl) h
  · rw [if_pos hc1] at h
    refine lv_aload_n hx hb dX4_measure_28 rfl (lv_at hl 0 rfl) ?_
    refine va_get (D := D) (ci := 4) (v := .ref (a1 0)) (C := RX4) (T := TX4) (N := 7) hx hb hts in_X4_measure_X4 hown hK hP 0 rfl rfl 1 (by decide) (hts (.fieldLink RX4 19 "TermLoom" "terms" "LTermLoom$TermStore;") (by decide +kernel)) (fun _ h9 => h9) rfl dX4_measure_29 ?_
    refine lv_iload_n hx hb dX4_measure_32 rfl (lv_at hl 1 rfl) ?_
    obtain ⟨q3, hq3, h⟩ := ob h
    refine mg_i (ws' := wX4 a4 a2 a1 a3 a0 cI cZ (x, y, q3.2.1, q3.2.2, b)) (wr := ((wX4o a4 a2 a1 a0 cI cZ x) ++ (wX2o a2 cI cZ y) ++ (wX0o a0 cI cZ b) : va_W)) [14, 15, 16, 17, 18, 19, 20, 21] [0, 1, 2, 3, 4, 5, 6, 7, 8, 9, 10, 11, 12, 13, 22, 23, 24, 25, 26, 27, 28] [0, 1, 2, 3, 4, 5, 6, 7, 8, 9, 10, 11, 12, 13, 21, 22, 23, 24, 25, 26, 27, 28, 14, 15, 16, 17, 18, 19, 20] (va_runV (As := [.int x1]) (rest := []) ⟨hx, hb, hml, hown, hts⟩ (c_X1_length l D cI cZ a1 a3 N t k x1 q3.1 q3.2 hq3 H.size) (cwV 1 hts gX4_measure_X1_length rfl rfl rfl (by decide +kernel) ⟨Nat.le_of_ble_eq_true rfl, Nat.le_of_ble_eq_true rfl⟩) (pV [14, 15, 16, 17, 18, 19, 20, 21] hP hD hK hN rfl rfl rfl rfl) rfl rfl hl.1 rfl (lv_room (Nat.le_of_ble_eq_true rfl)) dX4_measure_33 ⟨Nat.le_of_ble_eq_true rfl, Nat.le_of_ble_eq_true rfl⟩) hP hD hS hA rfl rfl rfl (by decide) rfl rfl (fun H locs hP hD hS => ?_)
    refine lv_goto (tgt := 47) hx hb dX4_measure_36 (by decide) ?_
    refine W.widen (k := 1) (n := 6) (by decide) (by decide) ?_
    exact k_X4_measure_47 C0 N x y q3.2.1 q3.2.2 b q3.1 _ _ _ hP hD hS (lv_sub hl [] rfl) h
set_option maxHeartbeats 4000000 in
set_option maxRecDepth 100000 in
theorem c_X4_measure (l : Launch) (hlt : l.stackTraces = false) (D : va_G) (cI cZ : ClassId) (sa : Nat → Nat) (a4 a2 a1 a3 a0 : Nat → Nat) (N : Nat) (x y t k b : St) (x1 x2 : Int32) : XI l yX4_measure wsX4_measure ({ frames := 7, cells := 2, slots := 12, locals := 103 } : Room) D cI cZ sa (wX4 a4 a2 a1 a3 a0 cI cZ) [.ref (a4 0), .int x1, .int x2] (x, y, t, k, b) 2 12 (f_X4_measure N x y t k b x1 x2) := by
  refine XI.of (cc := cX4_measure) (maxL := 3) (ret := (some .int)) (own := RX4) hlt (by decide) rfl rfl (Nat.le_of_ble_eq_true rfl) ?_
  intro res u1 h p e s m args below meth c A C0 H locs ls hP hD hS hl
  obtain ⟨⟨hx, hb, hml, hr, hown, hts, hlocks, hA, hK, hN⟩, hX, hlt, hT⟩ := id C0
  have hl : lv_has ls 3 [(0, .ref (a4 0)), (1, .int x1), (2, .int x2)] := hl
  unfold f_X4_measure at h
  refine lv_aload_n hx hb dX4_measure_0 rfl (lv_at hl 0 rfl) ?_
  refine lv_iload_n hx hb dX4_measure_1 rfl (lv_at hl 1 rfl) ?_
  obtain ⟨q1, hq1, h⟩ := ob h
  refine mx_v (uo := (q1.2.1, q1.2.2.1, q1.2.2.2.1, q1.2.2.2.2.1, q1.2.2.2.2.2)) (wr := ([] : va_W)) [0, 1, 2, 3, 4, 5, 6, 7, 8, 9, 10, 11, 12, 13, 14, 15, 16, 17, 18, 19, 20, 21, 22, 23, 24, 25, 26, 27, 28] [] [0, 1, 2, 3, 4, 5, 6, 7, 8, 9, 10, 11, 12, 13, 14, 15, 16, 17, 18, 19, 20, 21, 22, 23, 24, 25, 26, 27, 28] (vx_runV (As := [.int x1]) (rest := []) ⟨hx, hb, hml, hown, hts⟩ (c_X4_requireTerm l hlt D cI cZ sa a4 a2 a1 a3 a0 N x y t k b x1 q1.1 q1.2 hq1 H.size) (cwV 1 hts gX4_measure_X4_requireTerm rfl rfl rfl (by decide +kernel) ⟨Nat.le_of_ble_eq_true rfl, Nat.le_of_ble_eq_true rfl⟩) (pXV [0, 1, 2, 3, 4, 5, 6, 7, 8, 9, 10, 11, 12, 13, 14, 15, 16, 17, 18, 19, 20, 21, 22, 23, 24, 25, 26, 27, 28] hP hD hS hA hK hN hX rfl rfl rfl rfl) rfl rfl hl.1 rfl (lv_room (Nat.le_of_ble_eq_true rfl)) dX4_measure_2 ⟨Nat.le_of_ble_eq_true rfl, Nat.le_of_ble_eq_true rfl⟩) hT hlocks hK hP hD hS hA rfl rfl rfl (by decide) rfl rfl (by decide) (by decide) (fun k9 hk9 => by rw [hk9] at h; exact h) (fun r2 hr9 H locs hP hD hS => ?_)
  rw [hr9, ex_inl] at h
  refine lv_iload_n hx hb dX4_measure_5 rfl (lv_at hl 2 rfl) ?_
  refine lv_if_eq (tgt := 24) hx hb dX4_measure_6 (by decide) (fun hc3 => ?_) (fun hc3 => ?_)
  · rw [if_pos hc3] at h
    refine W.widen (k := 1) (n := 6) (by decide) (by decide) ?_
    exact k_X4_measure_24 C0 N q1.2.1 q1.2.2.1 q1.2.2.2.1 q1.2.2.2.2.1 q1.2.2.2.2.2 x1 x2 _ _ _ hP hD hS (lv_sub hl [0, 1, 2] rfl) h
  · rw [if_neg hc3] at h
    refine lv_iload_n hx hb dX4_measure_9 rfl (lv_at hl 2 rfl) ?_
    refine lv_iconst (v := 1) hx hb dX4_measure_10 rfl ?_
    refine lv_icmp_eq (tgt := 24) hx hb dX4_measure_11 (by decide) (fun hc4 => ?_) (fun hc4 => ?_)
    · rw [if_pos hc4] at h
      refine W.widen (k := 1) (n := 6) (by decide) (by decide) ?_
      exact k_X4_measure_24 C0 N q1.2.1 q1.2.2.1 q1.2.2.2.1 q1.2.2.2.2.1 q1.2.2.2.2.2 x1 x2 _ _ _ hP hD hS (lv_sub hl [0, 1, 2] rfl) h
    · rw [if_neg hc4] at h
      obtain ⟨rfl, rfl⟩ := so h
      exact x_throw (is := 200) (text := "what is 0 or 1") (cls := "java/lang/IllegalArgumentException") (lv := [(0, .ref (a4 0)), (1, .int x1), (2, .int x2)]) C0 rfl (by decide +kernel) (by decide +kernel) xw_X4_measure_48 (by decide +kernel) (by decide +kernel) (by decide +kernel) (by decide +kernel) hP hD hS hl dX4_measure_14 dX4_measure_17 dX4_measure_18 dX4_measure_20 dX4_measure_23 (Nat.le_of_ble_eq_true rfl) (Nat.le_of_ble_eq_true rfl) (Nat.le_of_ble_eq_true rfl) (Nat.le_of_ble_eq_true rfl) (by decide) (by decide)

theorem in_X4_same_X4 : ∀ w ∈ u_ws RX4 TX4 7, w ∈ wsX4_same := by decide +kernel
def f_X4_same (N : Nat) (x y t k b : St) (x1 x2 : Int32) : Option ((Int32 ⊕ Nat) × (St × St × St × St × St)) := (f_X4_requireTerm N x y t k b x1).bind (fun q1 => ex q1.1 (q1.2.1, q1.2.2.1, q1.2.2.2.1, q1.2.2.2.2.1, q1.2.2.2.2.2) (fun r2 => (f_X4_requireTerm N q1.2.1 q1.2.2.1 q1.2.2.2.1 q1.2.2.2.2.1 q1.2.2.2.2.2 x2).bind (fun q3 => ex q3.1 (q3.2.1, q3.2.2.1, q3.2.2.2.1, q3.2.2.2.2.1, q3.2.2.2.2.2) (fun r4 => (f_X1_start N q3.2.2.2.1 q3.2.2.2.2.1 x1).bind (fun q5 => (f_X1_end N q5.2.1 q5.2.2 x1).bind (fun q6 => (f_X1_start N q6.2.1 q6.2.2 x2).bind (fun q7 => (f_X1_end N q7.2.1 q7.2.2 x2).bind (fun q8 => (f_X1_alike N q8.2.1 q8.2.2 q5.1 q6.1 q7.1 q8.1).bind (fun q9 => if q9.1 = 0 ∨ q9.1 = 1 then some (.inl q9.1, (q3.2.1, q3.2.2.1, q9.2.1, q9.2.2, q3.2.2.2.2.2)) else none)))))))))
set_option maxHeartbeats 4000000 in
set_option maxRecDepth 100000 in
theorem c_X4_same (l : Launch) (hlt : l.stackTraces = false) (D : va_G) (cI cZ : ClassId) (sa : Nat → Nat) (a4 a2 a1 a3 a0 : Nat → Nat) (N : Nat) (x y t k b : St) (x1 x2 : Int32) : XI l yX4_same wsX4_same ({ frames := 7, cells := 2, slots := 12, locals := 103 } : Room) D cI cZ sa (wX4 a4 a2 a1 a3 a0 cI cZ) [.ref (a4 0), .int x1, .int x2] (x, y, t, k, b) 2 12 (f_X4_same N x y t k b x1 x2) := by
  refine XI.of (cc := cX4_same) (maxL := 3) (ret := (some .boolean)) (own := RX4) hlt (by decide) rfl rfl (Nat.le_of_ble_eq_true rfl) ?_
  intro res u1 h p e s m args below meth c A C0 H locs ls hP hD hS hl
  obtain ⟨⟨hx, hb, hml, hr, hown, hts, hlocks, hA, hK, hN⟩, hX, hlt, hT⟩ := id C0
  have hl : lv_has ls 3 [(0, .ref (a4 0)), (1, .int x1), (2, .int x2)] := hl
  unfold f_X4_same at h
  refine lv_aload_n hx hb dX4_same_0 rfl (lv_at hl 0 rfl) ?_
  refine lv_iload_n hx hb dX4_same_1 rfl (lv_at hl 1 rfl) ?_
  obtain ⟨q1, hq1, h⟩ := ob h
  refine mx_v (uo := (q1.2.1, q1.2.2.1, q1.2.2.2.1, q1.2.2.2.2.1, q1.2.2.2.2.2)) (wr := ([] : va_W)) [0, 1, 2, 3, 4, 5, 6, 7, 8, 9, 10, 11, 12, 13, 14, 15, 16, 17, 18, 19, 20, 21, 22, 23, 24, 25, 26, 27, 28] [] [0, 1, 2, 3, 4, 5, 6, 7, 8, 9, 10, 11, 12, 13, 14, 15, 16, 17, 18, 19, 20, 21, 22, 23, 24, 25, 26, 27, 28] (vx_runV (As := [.int x1]) (rest := []) ⟨hx, hb, hml, hown, hts⟩ (c_X4_requireTerm l hlt D cI cZ sa a4 a2 a1 a3 a0 N x y t k b x1 q1.1 q1.2 hq1 H.size) (cwV 1 hts gX4_same_X4_requireTerm rfl rfl rfl (by decide +kernel) ⟨Nat.le_of_ble_eq_true rfl, Nat.le_of_ble_eq_true rfl⟩) (pXV [0, 1, 2, 3, 4, 5, 6, 7, 8, 9, 10, 11, 12, 13, 14, 15, 16, 17, 18, 19, 20, 21, 22, 23, 24, 25, 26, 27, 28] hP hD hS hA hK hN hX rfl rfl rfl rfl) rfl rfl hl.1 rfl (lv_room (Nat.le_of_ble_eq_true rfl)) dX4_same_2 ⟨Nat.le_of_ble_eq_true rfl, Nat.le_of_ble_eq_true rfl⟩) hT hlocks hK hP hD hS hA rfl rfl rfl (by decide) rfl rfl (by decide) (by decide) (fun k9 hk9 => by rw [hk9] at h; exact h) (fun r2 hr9 H locs hP hD hS => ?_)
  rw [hr9, ex_inl] at h
  refine lv_aload_n hx hb dX4_same_5 rfl (lv_at hl 0 rfl) ?_
  refine lv_iload_n hx hb dX4_same_6 rfl (lv_at hl 2 rfl) ?_
  obtain ⟨q3, hq3, h⟩ := ob h
  refine mx_v (uo := (q3.2.1, q3.2.2.1, q3.2.2.2.1, q3.2.2.2.2.1, q3.2.2.2.2.2)) (wr := ([] : va_W)) [0, 1, 2, 3, 4, 5, 6, 7, 8, 9, 10, 11, 12, 13, 14, 15, 16, 17, 18, 19, 20, 21, 22, 23, 24, 25, 26, 27, 28] [] [0, 1, 2, 3, 4, 5, 6, 7, 8, 9, 10, 11, 12, 13, 14, 15, 16, 17, 18, 19, 20, 21, 22, 23, 24, 25, 26, 27, 28] (vx_runV (As := [.int x2]) (rest := []) ⟨hx, hb, hml, hown, hts⟩ (c_X4_requireTerm l hlt D cI cZ sa a4 a2 a1 a3 a0 N q1.2.1 q1.2.2.1 q1.2.2.2.1 q1.2.2.2.2.1 q1.2.2.2.2.2 x2 q3.1 q3.2 hq3 H.size) (cwV 1 hts gX4_same_X4_requireTerm rfl rfl rfl (by decide +kernel) ⟨Nat.le_of_ble_eq_true rfl, Nat.le_of_ble_eq_true rfl⟩) (pXV [0, 1, 2, 3, 4, 5, 6, 7, 8, 9, 10, 11, 12, 13, 14, 15, 16, 17, 18, 19, 20, 21, 22, 23, 24, 25, 26, 27, 28] hP hD hS hA hK hN hX rfl rfl rfl rfl) rfl rfl hl.1 rfl (lv_room (Nat.le_of_ble_eq_true rfl)) dX4_same_7 ⟨Nat.le_of_ble_eq_true rfl, Nat.le_of_ble_eq_true rfl⟩) hT hlocks hK hP hD hS hA rfl rfl rfl (by decide) rfl rfl (by decide) (by decide) (fun k9 hk9 => by rw [hk9] at h; exact h) (fun r4 hr9 H locs hP hD hS => ?_)
  rw [hr9, ex_inl] at h
  refine lv_aload_n hx hb dX4_same_10 rfl (lv_at hl 0 rfl) ?_
  refine va_get (D := D) (ci := 4) (v := .ref (a1 0)) (C := RX4) (T := TX4) (N := 7) hx hb hts in_X4_same_X4 hown hK hP 0 rfl rfl 1 (by decide) (hts (.fieldLink RX4 19 "TermLoom" "terms" "LTermLoom$TermStore;") (by decide +kernel)) (fun _ h9 => h9) rfl dX4_same_11 ?_
  refine lv_aload_n hx hb dX4_same_14 rfl (lv_at hl 0 rfl) ?_
  refine va_get (D := D) (ci := 4) (v := .ref (a1 0)) (C := RX4) (T := TX4) (N := 7) hx hb hts in_X4_same_X4 hown hK hP 0 rfl rfl 1 (by decide) (hts (.fieldLink RX4 19 "TermLoom" "terms" "LTermLoom$TermStore;") (by decide +kernel)) (fun _ h9 => h9) rfl dX4_same_15 ?_
  refine lv_iload_n hx hb dX4_same_18 rfl (lv_at hl 1 rfl) ?_
  obtain ⟨q5, hq5, h⟩ := ob h
  refine mg_i (ws' := wX4 a4 a2 a1 a3 a0 cI cZ (q3.2.1, q3.2.2.1, q5.2.1, q5.2.2, q3.2.2.2.2.2)) (wr := ((wX4o a4 a2 a1 a0 cI cZ q3.2.1) ++ (wX2o a2 cI cZ q3.2.2.1) ++ (wX0o a0 cI cZ q3.2.2.2.2.2) : va_W)) [14, 15, 16, 17, 18, 19, 20, 21] [0, 1, 2, 3, 4, 5, 6, 7, 8, 9, 10, 11, 12, 13, 22, 23, 24, 25, 26, 27, 28] [0, 1, 2, 3, 4, 5, 6, 7, 8, 9, 10, 11, 12, 13, 21, 22, 23, 24, 25, 26, 27, 28, 14, 15, 16, 17, 18, 19, 20] (va_runV (As := [.int x1]) (rest := [.ref (a1 0)]) ⟨hx, hb, hml, hown, hts⟩ (c_X1_start l D cI cZ a1 a3 N q3.2.2.2.1 q3.2.2.2.2.1 x1 q5.1 q5.2 hq5 H.size) (cwV 1 hts gX4_same_X1_start rfl rfl rfl (by decide +kernel) ⟨Nat.le_of_ble_eq_true rfl, Nat.le_of_ble_eq_true rfl⟩) (pV [14, 15, 16, 17, 18, 19, 20, 21] hP hD hK hN rfl rfl rfl rfl) rfl rfl hl.1 rfl (lv_room (Nat.le_of_ble_eq_true rfl)) dX4_same_19 ⟨Nat.le_of_ble_eq_true rfl, Nat.le_of_ble_eq_true rfl⟩) hP hD hS hA rfl rfl rfl (by decide) rfl rfl (fun H locs hP hD hS => ?_)
  refine lv_aload_n hx hb dX4_same_22 rfl (lv_at hl 0 rfl) ?_
  refine va_get (D := D) (ci := 4) (v := .ref (a1 0)) (C := RX4) (T := TX4) (N := 7) hx hb hts in_X4_same_X4 hown hK hP 0 rfl rfl 1 (by decide) (hts (.fieldLink RX4 19 "TermLoom" "terms" "LTermLoom$TermStore;") (by decide +kernel)) (fun _ h9 => h9) rfl dX4_same_23 ?_
  refine lv_iload_n hx hb dX4_same_26 rfl (lv_at hl 1 rfl) ?_
  obtain ⟨q6, hq6, h⟩ := ob h
  refine mg_i (ws' := wX4 a4 a2 a1 a3 a0 cI cZ (q3.2.1, q3.2.2.1, q6.2.1, q6.2.2, q3.2.2.2.2.2)) (wr := ((wX4o a4 a2 a1 a0 cI cZ q3.2.1) ++ (wX2o a2 cI cZ q3.2.2.1) ++ (wX0o a0 cI cZ q3.2.2.2.2.2) : va_W)) [14, 15, 16, 17, 18, 19, 20, 21] [0, 1, 2, 3, 4, 5, 6, 7, 8, 9, 10, 11, 12, 13, 22, 23, 24, 25, 26, 27, 28] [0, 1, 2, 3, 4, 5, 6, 7, 8, 9, 10, 11, 12, 13, 21, 22, 23, 24, 25, 26, 27, 28, 14, 15, 16, 17, 18, 19, 20] (va_runV (As := [.int x1]) (rest := [.int q5.1, .ref (a1 0)]) ⟨hx, hb, hml, hown, hts⟩ (c_X1_end l D cI cZ a1 a3 N q5.2.1 q5.2.2 x1 q6.1 q6.2 hq6 H.size) (cwV 1 hts gX4_same_X1_end rfl rfl rfl (by decide +kernel) ⟨Nat.le_of_ble_eq_true rfl, Nat.le_of_ble_eq_true rfl⟩) (pV [14, 15, 16, 17, 18, 19, 20, 21] hP hD hK hN rfl rfl rfl rfl) rfl rfl hl.1 rfl (lv_room (Nat.le_of_ble_eq_true rfl)) dX4_same_27 ⟨Nat.le_of_ble_eq_true rfl, Nat.le_of_ble_eq_true rfl⟩) hP hD hS hA rfl rfl rfl (by decide) rfl rfl (fun H locs hP hD hS => ?_)
  refine lv_aload_n hx hb dX4_same_30 rfl (lv_at hl 0 rfl) ?_
  refine va_get (D := D) (ci := 4) (v := .ref (a1 0)) (C := RX4) (T := TX4) (N := 7) hx hb hts in_X4_same_X4 hown hK hP 0 rfl rfl 1 (by decide) (hts (.fieldLink RX4 19 "TermLoom" "terms" "LTermLoom$TermStore;") (by decide +kernel)) (fun _ h9 => h9) rfl dX4_same_31 ?_
  refine lv_iload_n hx hb dX4_same_34 rfl (lv_at hl 2 rfl) ?_
  obtain ⟨q7, hq7, h⟩ := ob h
  refine mg_i (ws' := wX4 a4 a2 a1 a3 a0 cI cZ (q3.2.1, q3.2.2.1, q7.2.1, q7.2.2, q3.2.2.2.2.2)) (wr := ((wX4o a4 a2 a1 a0 cI cZ q3.2.1) ++ (wX2o a2 cI cZ q3.2.2.1) ++ (wX0o a0 cI cZ q3.2.2.2.2.2) : va_W)) [14, 15, 16, 17, 18, 19, 20, 21] [0, 1, 2, 3, 4, 5, 6, 7, 8, 9, 10, 11, 12, 13, 22, 23, 24, 25, 26, 27, 28] [0, 1, 2, 3, 4, 5, 6, 7, 8, 9, 10, 11, 12, 13, 21, 22, 23, 24, 25, 26, 27, 28, 14, 15, 16, 17, 18, 19, 20] (va_runV (As := [.int x2]) (rest := [.int q6.1, .int q5.1, .ref (a1 0)]) ⟨hx, hb, hml, hown, hts⟩ (c_X1_start l D cI cZ a1 a3 N q6.2.1 q6.2.2 x2 q7.1 q7.2 hq7 H.size) (cwV 1 hts gX4_same_X1_start rfl rfl rfl (by decide +kernel) ⟨Nat.le_of_ble_eq_true rfl, Nat.le_of_ble_eq_true rfl⟩) (pV [14, 15, 16, 17, 18, 19, 20, 21] hP hD hK hN rfl rfl rfl rfl) rfl rfl hl.1 rfl (lv_room (Nat.le_of_ble_eq_true rfl)) dX4_same_35 ⟨Nat.le_of_ble_eq_true rfl, Nat.le_of_ble_eq_true rfl⟩) hP hD hS hA rfl rfl rfl (by decide) rfl rfl (fun H locs hP hD hS => ?_)
  refine lv_aload_n hx hb dX4_same_38 rfl (lv_at hl 0 rfl) ?_
  refine va_get (D := D) (ci := 4) (v := .ref (a1 0)) (C := RX4) (T := TX4) (N := 7) hx hb hts in_X4_same_X4 hown hK hP 0 rfl rfl 1 (by decide) (hts (.fieldLink RX4 19 "TermLoom" "terms" "LTermLoom$TermStore;") (by decide +kernel)) (fun _ h9 => h9) rfl dX4_same_39 ?_
  refine lv_iload_n hx hb dX4_same_42 rfl (lv_at hl 2 rfl) ?_
  obtain ⟨q8, hq8, h⟩ := ob h
  refine mg_i (ws' := wX4 a4 a2 a1 a3 a0 cI cZ (q3.2.1, q3.2.2.1, q8.2.1, q8.2.2, q3.2.2.2.2.2)) (wr := ((wX4o a4 a2 a1 a0 cI cZ q3.2.1) ++ (wX2o a2 cI cZ q3.2.2.1) ++ (wX0o a0 cI cZ q3.2.2.2.2.2) : va_W)) [14, 15, 16, 17, 18, 19, 20, 21] [0, 1, 2, 3, 4, 5, 6, 7, 8, 9, 10, 11, 12, 13, 22, 23, 24, 25, 26, 27, 28] [0, 1, 2, 3, 4, 5, 6, 7, 8, 9, 10, 11, 12, 13, 21, 22, 23, 24, 25, 26, 27, 28, 14, 15, 16, 17, 18, 19, 20] (va_runV (As := [.int x2]) (rest := [.int q7.1, .int q6.1, .int q5.1, .ref (a1 0)]) ⟨hx, hb, hml, hown, hts⟩ (c_X1_end l D cI cZ a1 a3 N q7.2.1 q7.2.2 x2 q8.1 q8.2 hq8 H.size) (cwV 1 hts gX4_same_X1_end rfl rfl rfl (by decide +kernel) ⟨Nat.le_of_ble_eq_true rfl, Nat.le_of_ble_eq_true rfl⟩) (pV [14, 15, 16, 17, 18, 19, 20, 21] hP hD hK hN rfl rfl rfl rfl) rfl rfl hl.1 rfl (lv_room (Nat.le_of_ble_eq_true rfl)) dX4_same_43 ⟨Nat.le_of_ble_eq_true rfl, Nat.le_of_ble_eq_true rfl⟩) hP hD hS hA rfl rfl rfl (by decide) rfl rfl (fun H locs hP hD hS => ?_)
  obtain ⟨q9, hq9, h⟩ := ob h
  refine mg_i (ws' := wX4 a4 a2 a1 a3 a0 cI cZ (q3.2.1, q3.2.2.1, q9.2.1, q9.2.2, q3.2.2.2.2.2)) (wr := ((wX4o a4 a2 a1 a0 cI cZ q3.2.1) ++ (wX2o a2 cI cZ q3.2.2.1) ++ (wX0o a0 cI cZ q3.2.2.2.2.2) : va_W)) [14, 15, 16, 17, 18, 19, 20, 21] [0, 1, 2, 3, 4, 5, 6, 7, 8, 9, 10, 11, 12, 13, 22, 23, 24, 25, 26, 27, 28] [0, 1, 2, 3, 4, 5, 6, 7, 8, 9, 10, 11, 12, 13, 21, 22, 23, 24, 25, 26, 27, 28, 14, 15, 16, 17, 18, 19, 20] (va_runV (As := [.int q5.1, .int q6.1, .int q7.1, .int q8.1]) (rest := []) ⟨hx, hb, hml, hown, hts⟩ (c_X1_alike l D cI cZ a1 a3 N q8.2.1 q8.2.2 q5.1 q6.1 q7.1 q8.1 q9.1 q9.2 hq9 H.size) (cwV 4 hts gX4_same_X1_alike rfl rfl rfl (by decide +kernel) ⟨Nat.le_of_ble_eq_true rfl, Nat.le_of_ble_eq_true rfl⟩) (pV [14, 15, 16, 17, 18, 19, 20, 21] hP hD hK hN rfl rfl rfl rfl) rfl rfl hl.1 rfl (lv_room (Nat.le_of_ble_eq_true rfl)) dX4_same_46 ⟨Nat.le_of_ble_eq_true rfl, Nat.le_of_ble_eq_true rfl⟩) hP hD hS hA rfl rfl rfl (by decide) rfl rfl (fun H locs hP hD hS => ?_)
  by_cases hz : q9.1 = 0 ∨ q9.1 = 1
  · rw [if_pos hz] at h
    obtain ⟨rfl, rfl⟩ := so h
    exact xret_z C0 hz hP hD hS dX4_same_49 (by decide) (by decide)
  · rw [if_neg hz] at h; exact no h

def f_X4_sameType_18 (N : Nat) (x y t k b : St) (s0 : Int32) : Option ((Int32 ⊕ Nat) × (St × St × St × St × St)) := if s0 = 0 ∨ s0 = 1 then some (.inl s0, (x, y, t, k, b)) else none
def f_X4_sameType (N : Nat) (x y t k b : St) (x1 x2 : Int32) : Option ((Int32 ⊕ Nat) × (St × St × St × St × St)) := (f_X4_typeBehind N x y t k b x1).bind (fun q1 => ex q1.1 (q1.2.1, q1.2.2.1, q1.2.2.2.1, q1.2.2.2.2.1, q1.2.2.2.2.2) (fun r2 => (f_X4_typeBehind N q1.2.1 q1.2.2.1 q1.2.2.2.1 q1.2.2.2.2.1 q1.2.2.2.2.2 x2).bind (fun q3 => ex q3.1 (q3.2.1, q3.2.2.1, q3.2.2.2.1, q3.2.2.2.2.1, q3.2.2.2.2.2) (fun r4 => if r2 = r4 then f_X4_sameType_18 N q3.2.1 q3.2.2.1 q3.2.2.2.1 q3.2.2.2.2.1 q3.2.2.2.2.2 1 else f_X4_sameType_18 N q3.2.1 q3.2.2.1 q3.2.2.2.1 q3.2.2.2.2.1 q3.2.2.2.2.2 0))))
abbrev KP_X4_sameType_18 (p : Program) (l : Launch) (e : Env) (s : State) (m : MethodId) (args : Array Value) (below : List Frame) (meth : Method) (c : Code) (D : va_G) (cI cZ : ClassId) (a4 a2 a1 a3 a0 : Nat → Nat) (A : Nat → Prop) (res : Int32 ⊕ Nat) (u1 : St × St × St × St × St) (K : St → St → St → St → St → Int32 → Option ((Int32 ⊕ Nat) × (St × St × St × St × St))) : Prop := ∀ (x y t k b : St) (s0 : Int32) (H : Heap) (locs : List Loc) (ls : Array Slot), va_P D vwCl (wX4 a4 a2 a1 a3 a0 cI cZ (x, y, t, k, b)) H → va_D A (wX4 a4 a2 a1 a3 a0 cI cZ (x, y, t, k, b)) → va_S A s.heap H locs → lv_has ls 3 [] → K x y t k b s0 = some (res, u1) → W p l e ({ frames := 7, cells := 2, slots := 12, locals := 104 } : Room) s m args below meth c H locs 2 12 (vx_MQ below (xI D cI cZ (wX4 a4 a2 a1 a3 a0 cI cZ) A res u1) (xX D cI cZ (wX4 a4 a2 a1 a3 a0 cI cZ) A res u1) args s 2 12 A) (F0 m 18 ls [.int s0])
set_option maxHeartbeats 4000000 in
set_option maxRecDepth 100000 in
theorem k_X4_sameType_18 {p : Program} {l : Launch} {e : Env} {s : State} {m : MethodId} {args : Array Value} {below : List Frame} {meth : Method} {c : Code} {D : va_G} {cI cZ : ClassId} {sa : Nat → Nat} {a4 a2 a1 a3 a0 : Nat → Nat} {A : Nat → Prop} {res : Int32 ⊕ Nat} {u1 : St × St × St × St × St} (C0 : mX l p s m args meth c D cI cZ sa A cX4_sameType 3 (some .boolean) wsX4_sameType RX4) (N : Nat) : KP_X4_sameType_18 p l e s m args below meth c D cI cZ a4 a2 a1 a3 a0 A res u1 (f_X4_sameType_18 N) := by
  obtain ⟨⟨hx, hb, hml, hr, hown, hts, hlocks, hA, hK, hN⟩, hX, hlt, hT⟩ := id C0
  intro x y t k b s0 H locs ls hP hD hS hl h
  unfold f_X4_sameType_18 at h
  by_cases hz : s0 = 0 ∨ s0 = 1
  · rw [if_pos hz] at h
    obtain ⟨rfl, rfl⟩ := so h
    exact xret_z C0 hz hP hD hS dX4_sameType_18 (by decide) (by decide)
  · rw [if_neg hz] at h; exact no h
set_option maxHeartbeats 4000000 in
set_option maxRecDepth 100000 in
theorem c_X4_sameType (l : Launch) (hlt : l.stackTraces = false) (D : va_G) (cI cZ : ClassId) (sa : Nat → Nat) (a4 a2 a1 a3 a0 : Nat → Nat) (N : Nat) (x y t k b : St) (x1 x2 : Int32) : XI l yX4_sameType wsX4_sameType ({ frames := 7, cells := 2, slots := 12, locals := 104 } : Room) D cI cZ sa (wX4 a4 a2 a1 a3 a0 cI cZ) [.ref (a4 0), .int x1, .int x2] (x, y, t, k, b) 2 12 (f_X4_sameType N x y t k b x1 x2) := by
  refine XI.of (cc := cX4_sameType) (maxL := 3) (ret := (some .boolean)) (own := RX4) hlt (by decide) rfl rfl (Nat.le_of_ble_eq_true rfl) ?_
  intro res u1 h p e s m args below meth c A C0 H locs ls hP hD hS hl
  obtain ⟨⟨hx, hb, hml, hr, hown, hts, hlocks, hA, hK, hN⟩, hX, hlt, hT⟩ := id C0
  have hl : lv_has ls 3 [(0, .ref (a4 0)), (1, .int x1), (2, .int x2)] := hl
  unfold f_X4_sameType at h
  refine lv_aload_n hx hb dX4_sameType_0 rfl (lv_at hl 0 rfl) ?_
  refine lv_iload_n hx hb dX4_sameType_1 rfl (lv_at hl 1 rfl) ?_
  obtain ⟨q1, hq1, h⟩ := ob h
  refine mx_i (uo := (q1.2.1, q1.2.2.1, q1.2.2.2.1, q1.2.2.2.2.1, q1.2.2.2.2.2)) (wr := ([] : va_W)) [0, 1, 2, 3, 4, 5, 6, 7, 8, 9, 10, 11, 12, 13, 14, 15, 16, 17, 18, 19, 20, 21, 22, 23, 24, 25, 26, 27, 28] [] [0, 1, 2, 3, 4, 5, 6, 7, 8, 9, 10, 11, 12, 13, 14, 15, 16, 17, 18, 19, 20, 21, 22, 23, 24, 25, 26, 27, 28] (vx_runV (As := [.int x1]) (rest := []) ⟨hx, hb, hml, hown, hts⟩ (c_X4_typeBehind l hlt D cI cZ sa a4 a2 a1 a3 a0 N x y t k b x1 q1.1 q1.2 hq1 H.size) (cwV 1 hts gX4_sameType_X4_typeBehind rfl rfl rfl (by decide +kernel) ⟨Nat.le_of_ble_eq_true rfl, Nat.le_of_ble_eq_true rfl⟩) (pXV [0, 1, 2, 3, 4, 5, 6, 7, 8, 9, 10, 11, 12, 13, 14, 15, 16, 17, 18, 19, 20, 21, 22, 23, 24, 25, 26, 27, 28] hP hD hS hA hK hN hX rfl rfl rfl rfl) rfl rfl hl.1 rfl (lv_room (Nat.le_of_ble_eq_true rfl)) dX4_sameType_2 ⟨Nat.le_of_ble_eq_true rfl, Nat.le_of_ble_eq_true rfl⟩) hT hlocks hK hP hD hS hA rfl rfl rfl (by decide) rfl rfl (by decide) (by decide) (fun k9 hk9 => by rw [hk9] at h; exact h) (fun r2 hr9 H locs hP hD hS => ?_)
  rw [hr9, ex_inl] at h
  refine lv_aload_n hx hb dX4_sameType_5 rfl (lv_at hl 0 rfl) ?_
  refine lv_iload_n hx hb dX4_sameType_6 rfl (lv_at hl 2 rfl) ?_
  obtain ⟨q3, hq3, h⟩ := ob h
  refine mx_i (uo := (q3.2.1, q3.2.2.1, q3.2.2.2.1, q3.2.2.2.2.1, q3.2.2.2.2.2)) (wr := ([] : va_W)) [0, 1, 2, 3, 4, 5, 6, 7, 8, 9, 10, 11, 12, 13, 14, 15, 16, 17, 18, 19, 20, 21, 22, 23, 24, 25, 26, 27, 28] [] [0, 1, 2, 3, 4, 5, 6, 7, 8, 9, 10, 11, 12, 13, 14, 15, 16, 17, 18, 19, 20, 21, 22, 23, 24, 25, 26, 27, 28] (vx_runV (As := [.int x2]) (rest := [.int r2]) ⟨hx, hb, hml, hown, hts⟩ (c_X4_typeBehind l hlt D cI cZ sa a4 a2 a1 a3 a0 N q1.2.1 q1.2.2.1 q1.2.2.2.1 q1.2.2.2.2.1 q1.2.2.2.2.2 x2 q3.1 q3.2 hq3 H.size) (cwV 1 hts gX4_sameType_X4_typeBehind rfl rfl rfl (by decide +kernel) ⟨Nat.le_of_ble_eq_true rfl, Nat.le_of_ble_eq_true rfl⟩) (pXV [0, 1, 2, 3, 4, 5, 6, 7, 8, 9, 10, 11, 12, 13, 14, 15, 16, 17, 18, 19, 20, 21, 22, 23, 24, 25, 26, 27, 28] hP hD hS hA hK hN hX rfl rfl rfl rfl) rfl rfl hl.1 rfl (lv_room (Nat.le_of_ble_eq_true rfl)) dX4_sameType_7 ⟨Nat.le_of_ble_eq_true rfl, Nat.le_of_ble_eq_true rfl⟩) hT hlocks hK hP hD hS hA rfl rfl rfl (by decide) rfl rfl (by decide) (by decide) (fun k9 hk9 => by rw [hk9] at h; exact h) (fun r4 hr9 H locs hP hD hS => ?_)
  rw [hr9, ex_inl] at h
  refine lv_icmp_ne (tgt := 17) hx hb dX4_sameType_10 (by decide) (fun hc5 => ?_) (fun hc5 => ?_)
  · rw [if_neg hc5] at h
    refine lv_iconst (v := 0) hx hb dX4_sameType_17 rfl ?_
    refine W.widen (k := 2) (n := 12) (by decide) (by decide) ?_
    exact k_X4_sameType_18 C0 N q3.2.1 q3.2.2.1 q3.2.2.2.1 q3.2.2.2.2.1 q3.2.2.2.2.2 0 _ _ _ hP hD hS (lv_sub hl [] rfl) h
  · rw [if_pos hc5] at h
    refine lv_iconst (v := 1) hx hb dX4_sameType_13 rfl ?_
    refine lv_goto (tgt := 18) hx hb dX4_sameType_14 (by decide) ?_
    refine W.widen (k := 2) (n := 12) (by decide) (by decide) ?_
    exact k_X4_sameType_18 C0 N q3.2.1 q3.2.2.1 q3.2.2.2.1 q3.2.2.2.2.1 q3.2.2.2.2.2 1 _ _ _ hP hD hS (lv_sub hl [] rfl) h

theorem in_X4_occurs_X4 : ∀ w ∈ u_ws RX4 TX4 7, w ∈ wsX4_occurs := by decide +kernel
def f_X4_occurs (N : Nat) (x y t k b : St) (x1 x2 : Int32) : Option ((Int32 ⊕ Nat) × (St × St × St × St × St)) := (f_X4_requireTerm N x y t k b x1).bind (fun q1 => ex q1.1 (q1.2.1, q1.2.2.1, q1.2.2.2.1, q1.2.2.2.2.1, q1.2.2.2.2.2) (fun r2 => (f_X4_requireTerm N q1.2.1 q1.2.2.1 q1.2.2.2.1 q1.2.2.2.2.1 q1.2.2.2.2.2 x2).bind (fun q3 => ex q3.1 (q3.2.1, q3.2.2.1, q3.2.2.2.1, q3.2.2.2.2.1, q3.2.2.2.2.2) (fun r4 => (f_X4_requireFree N q3.2.1 q3.2.2.1 q3.2.2.2.1 q3.2.2.2.2.1 q3.2.2.2.2.2 x1).bind (fun q5 => ex q5.1 (q5.2.1, q5.2.2.1, q5.2.2.2.1, q5.2.2.2.2.1, q5.2.2.2.2.2) (fun r6 => (f_X1_holds N q5.2.2.2.1 q5.2.2.2.2.1 x2 x1).bind (fun q7 => if q7.1 = 0 ∨ q7.1 = 1 then some (.inl q7.1, (q5.2.1, q5.2.2.1, q7.2.1, q7.2.2, q5.2.2.2.2.2)) else none)))))))
set_option maxHeartbeats 4000000 in
set_option maxRecDepth 100000 in
theorem c_X4_occurs (l : Launch) (hlt : l.stackTraces = false) (D : va_G) (cI cZ : ClassId) (sa : Nat → Nat) (a4 a2 a1 a3 a0 : Nat → Nat) (N : Nat) (x y t k b : St) (x1 x2 : Int32) : XI l yX4_occurs wsX4_occurs ({ frames := 7, cells := 3, slots := 18, locals := 108 } : Room) D cI cZ sa (wX4 a4 a2 a1 a3 a0 cI cZ) [.ref (a4 0), .int x1, .int x2] (x, y, t, k, b) 3 18 (f_X4_occurs N x y t k b x1 x2) := by
  refine XI.of (cc := cX4_occurs) (maxL := 3) (ret := (some .boolean)) (own := RX4) hlt (by decide) rfl rfl (Nat.le_of_ble_eq_true rfl) ?_
  intro res u1 h p e s m args below meth c A C0 H locs ls hP hD hS hl
  obtain ⟨⟨hx, hb, hml, hr, hown, hts, hlocks, hA, hK, hN⟩, hX, hlt, hT⟩ := id C0
  have hl : lv_has ls 3 [(0, .ref (a4 0)), (1, .int x1), (2, .int x2)] := hl
  unfold f_X4_occurs at h
  refine lv_aload_n hx hb dX4_occurs_0 rfl (lv_at hl 0 rfl) ?_
  refine lv_iload_n hx hb dX4_occurs_1 rfl (lv_at hl 1 rfl) ?_
  obtain ⟨q1, hq1, h⟩ := ob h
  refine mx_v (uo := (q1.2.1, q1.2.2.1, q1.2.2.2.1, q1.2.2.2.2.1, q1.2.2.2.2.2)) (wr := ([] : va_W)) [0, 1, 2, 3, 4, 5, 6, 7, 8, 9, 10, 11, 12, 13, 14, 15, 16, 17, 18, 19, 20, 21, 22, 23, 24, 25, 26, 27, 28] [] [0, 1, 2, 3, 4, 5, 6, 7, 8, 9, 10, 11, 12, 13, 14, 15, 16, 17, 18, 19, 20, 21, 22, 23, 24, 25, 26, 27, 28] (vx_runV (As := [.int x1]) (rest := []) ⟨hx, hb, hml, hown, hts⟩ (c_X4_requireTerm l hlt D cI cZ sa a4 a2 a1 a3 a0 N x y t k b x1 q1.1 q1.2 hq1 H.size) (cwV 1 hts gX4_occurs_X4_requireTerm rfl rfl rfl (by decide +kernel) ⟨Nat.le_of_ble_eq_true rfl, Nat.le_of_ble_eq_true rfl⟩) (pXV [0, 1, 2, 3, 4, 5, 6, 7, 8, 9, 10, 11, 12, 13, 14, 15, 16, 17, 18, 19, 20, 21, 22, 23, 24, 25, 26, 27, 28] hP hD hS hA hK hN hX rfl rfl rfl rfl) rfl rfl hl.1 rfl (lv_room (Nat.le_of_ble_eq_true rfl)) dX4_occurs_2 ⟨Nat.le_of_ble_eq_true rfl, Nat.le_of_ble_eq_true rfl⟩) hT hlocks hK hP hD hS hA rfl rfl rfl (by decide) rfl rfl (by decide) (by decide) (fun k9 hk9 => by rw [hk9] at h; exact h) (fun r2 hr9 H locs hP hD hS => ?_)
  rw [hr9, ex_inl] at h
  refine lv_aload_n hx hb dX4_occurs_5 rfl (lv_at hl 0 rfl) ?_
  refine lv_iload_n hx hb dX4_occurs_6 rfl (lv_at hl 2 rfl) ?_
  obtain ⟨q3, hq3, h⟩ := ob h
  refine mx_v (uo := (q3.2.1, q3.2.2.1, q3.2.2.2.1, q3.2.2.2.2.1, q3.2.2.2.2.2)) (wr := ([] : va_W)) [0, 1, 2, 3, 4, 5, 6, 7, 8, 9, 10, 11, 12, 13, 14, 15, 16, 17, 18, 19, 20, 21, 22, 23, 24, 25, 26, 27, 28] [] [0, 1, 2, 3, 4, 5, 6, 7, 8, 9, 10, 11, 12, 13, 14, 15, 16, 17, 18, 19, 20, 21, 22, 23, 24, 25, 26, 27, 28] (vx_runV (As := [.int x2]) (rest := []) ⟨hx, hb, hml, hown, hts⟩ (c_X4_requireTerm l hlt D cI cZ sa a4 a2 a1 a3 a0 N q1.2.1 q1.2.2.1 q1.2.2.2.1 q1.2.2.2.2.1 q1.2.2.2.2.2 x2 q3.1 q3.2 hq3 H.size) (cwV 1 hts gX4_occurs_X4_requireTerm rfl rfl rfl (by decide +kernel) ⟨Nat.le_of_ble_eq_true rfl, Nat.le_of_ble_eq_true rfl⟩) (pXV [0, 1, 2, 3, 4, 5, 6, 7, 8, 9, 10, 11, 12, 13, 14, 15, 16, 17, 18, 19, 20, 21, 22, 23, 24, 25, 26, 27, 28] hP hD hS hA hK hN hX rfl rfl rfl rfl) rfl rfl hl.1 rfl (lv_room (Nat.le_of_ble_eq_true rfl)) dX4_occurs_7 ⟨Nat.le_of_ble_eq_true rfl, Nat.le_of_ble_eq_true rfl⟩) hT hlocks hK hP hD hS hA rfl rfl rfl (by decide) rfl rfl (by decide) (by decide) (fun k9 hk9 => by rw [hk9] at h; exact h) (fun r4 hr9 H locs hP hD hS => ?_)
  rw [hr9, ex_inl] at h
  refine lv_aload_n hx hb dX4_occurs_10 rfl (lv_at hl 0 rfl) ?_
  refine lv_iload_n hx hb dX4_occurs_11 rfl (lv_at hl 1 rfl) ?_
  obtain ⟨q5, hq5, h⟩ := ob h
  refine mx_v (uo := (q5.2.1, q5.2.2.1, q5.2.2.2.1, q5.2.2.2.2.1, q5.2.2.2.2.2)) (wr := ([] : va_W)) [0, 1, 2, 3, 4, 5, 6, 7, 8, 9, 10, 11, 12, 13, 14, 15, 16, 17, 18, 19, 20, 21, 22, 23, 24, 25, 26, 27, 28] [] [0, 1, 2, 3, 4, 5, 6, 7, 8, 9, 10, 11, 12, 13, 14, 15, 16, 17, 18, 19, 20, 21, 22, 23, 24, 25, 26, 27, 28] (vx_runV (As := [.int x1]) (rest := []) ⟨hx, hb, hml, hown, hts⟩ (c_X4_requireFree l hlt D cI cZ sa a4 a2 a1 a3 a0 N q3.2.1 q3.2.2.1 q3.2.2.2.1 q3.2.2.2.2.1 q3.2.2.2.2.2 x1 q5.1 q5.2 hq5 H.size) (cwV 1 hts gX4_occurs_X4_requireFree rfl rfl rfl (by decide +kernel) ⟨Nat.le_of_ble_eq_true rfl, Nat.le_of_ble_eq_true rfl⟩) (pXV [0, 1, 2, 3, 4, 5, 6, 7, 8, 9, 10, 11, 12, 13, 14, 15, 16, 17, 18, 19, 20, 21, 22, 23, 24, 25, 26, 27, 28] hP hD hS hA hK hN hX rfl rfl rfl rfl) rfl rfl hl.1 rfl (lv_room (Nat.le_of_ble_eq_true rfl)) dX4_occurs_12 ⟨Nat.le_of_ble_eq_true rfl, Nat.le_of_ble_eq_true rfl⟩) hT hlocks hK hP hD hS hA rfl rfl rfl (by decide) rfl rfl (by decide) (by decide) (fun k9 hk9 => by rw [hk9] at h; exact h) (fun r6 hr9 H locs hP hD hS => ?_)
  rw [hr9, ex_inl] at h
  refine lv_aload_n hx hb dX4_occurs_15 rfl (lv_at hl 0 rfl) ?_
  refine va_get (D := D) (ci := 4) (v := .ref (a1 0)) (C := RX4) (T := TX4) (N := 7) hx hb hts in_X4_occurs_X4 hown hK hP 0 rfl rfl 1 (by decide) (hts (.fieldLink RX4 19 "TermLoom" "terms" "LTermLoom$TermStore;") (by decide +kernel)) (fun _ h9 => h9) rfl dX4_occurs_16 ?_
  refine lv_iload_n hx hb dX4_occurs_19 rfl (lv_at hl 2 rfl) ?_
  refine lv_iload_n hx hb dX4_occurs_20 rfl (lv_at hl 1 rfl) ?_
  obtain ⟨q7, hq7, h⟩ := ob h
  refine mg_i (ws' := wX4 a4 a2 a1 a3 a0 cI cZ (q5.2.1, q5.2.2.1, q7.2.1, q7.2.2, q5.2.2.2.2.2)) (wr := ((wX4o a4 a2 a1 a0 cI cZ q5.2.1) ++ (wX2o a2 cI cZ q5.2.2.1) ++ (wX0o a0 cI cZ q5.2.2.2.2.2) : va_W)) [14, 15, 16, 17, 18, 19, 20, 21] [0, 1, 2, 3, 4, 5, 6, 7, 8, 9, 10, 11, 12, 13, 22, 23, 24, 25, 26, 27, 28] [0, 1, 2, 3, 4, 5, 6, 7, 8, 9, 10, 11, 12, 13, 21, 22, 23, 24, 25, 26, 27, 28, 14, 15, 16, 17, 18, 19, 20] (va_runV (As := [.int x2, .int x1]) (rest := []) ⟨hx, hb, hml, hown, hts⟩ (c_X1_holds l D cI cZ a1 a3 N q5.2.2.2.1 q5.2.2.2.2.1 x2 x1 q7.1 q7.2 hq7 H.size) (cwV 2 hts gX4_occurs_X1_holds rfl rfl rfl (by decide +kernel) ⟨Nat.le_of_ble_eq_true rfl, Nat.le_of_ble_eq_true rfl⟩) (pV [14, 15, 16, 17, 18, 19, 20, 21] hP hD hK hN rfl rfl rfl rfl) rfl rfl hl.1 rfl (lv_room (Nat.le_of_ble_eq_true rfl)) dX4_occurs_21 ⟨Nat.le_of_ble_eq_true rfl, Nat.le_of_ble_eq_true rfl⟩) hP hD hS hA rfl rfl rfl (by decide) rfl rfl (fun H locs hP hD hS => ?_)
  by_cases hz : q7.1 = 0 ∨ q7.1 = 1
  · rw [if_pos hz] at h
    obtain ⟨rfl, rfl⟩ := so h
    exact xret_z C0 hz hP hD hS dX4_occurs_24 (by decide) (by decide)
  · rw [if_neg hz] at h; exact no h

theorem in_X4_behindBinding_X4 : ∀ w ∈ u_ws RX4 TX4 7, w ∈ wsX4_behindBinding := by decide +kernel
def f_X4_behindBinding_94 (N : Nat) (x y t k b : St) (s0 : Int32) : Option (Int32 × (St × St × St × St × St)) := some (s0, (x, y, t, k, b))
def f_X4_behindBinding (N : Nat) (x y t k b : St) (x1 x2 : Int32) : Option (Int32 × (St × St × St × St × St)) := (f_X1_endOfClosed N t k x2).bind (fun q1 => if q1.1 = (-1) then some ((-1), (x, y, q1.2.1, q1.2.2, b)) else (f_X1_code N q1.2.1 q1.2.2 x1).bind (fun q3 => (f_X1_symbolType N q3.2.1 q3.2.2 x1).bind (fun q4 => (f_X0_find N b q3.1 q4.1).bind (fun q5 => if q5.1 = (-1) then (f_X1_symbolType N q4.2.1 q4.2.2 x2).bind (fun q7 => (f_X2_fits N y q4.1 q7.1).bind (fun q8 => if q8.1 = 0 then some ((-1), (x, q8.2, q7.2.1, q7.2.2, q5.2)) else (f_X0_add N q5.2 q3.1 q4.1 x2 q1.1).bind (fun q10 => some (q1.1, (x, q8.2, q7.2.1, q7.2.2, q10))))) else (f_X0_from N q5.2 q5.1).bind (fun q11 => (f_X0_end N q11.2 q5.1).bind (fun q12 => (f_X1_alike N q4.2.1 q4.2.2 q11.1 q12.1 x2 q1.1).bind (fun q13 => if q13.1 = 0 then f_X4_behindBinding_94 N x y q13.2.1 q13.2.2 q12.2 (-1) else f_X4_behindBinding_94 N x y q13.2.1 q13.2.2 q12.2 q1.1)))))))
abbrev KP_X4_behindBinding_94 (p : Program) (l : Launch) (e : Env) (s : State) (m : MethodId) (args : Array Value) (below : List Frame) (meth : Method) (c : Code) (D : va_G) (cI cZ : ClassId) (a4 a2 a1 a3 a0 : Nat → Nat) (A : Nat → Prop) (r : Int32) (u1 : St × St × St × St × St) (K : St → St → St → St → St → Int32 → Option (Int32 × (St × St × St × St × St))) : Prop := ∀ (x y t k b : St) (s0 : Int32) (H : Heap) (locs : List Loc) (ls : Array Slot), va_P D vwCl (wX4 a4 a2 a1 a3 a0 cI cZ (x, y, t, k, b)) H → va_D A (wX4 a4 a2 a1 a3 a0 cI cZ (x, y, t, k, b)) → va_S A s.heap H locs → lv_has ls 8 [] → K x y t k b s0 = some (r, u1) → W p l e ({ frames := 128, cells := 0, slots := 0, locals := 5046 } : Room) s m args below meth c H locs 0 0 (QI below args s D cI cZ (wX4 a4 a2 a1 a3 a0 cI cZ) A r u1) (F0 m 94 ls [.int s0])
set_option maxHeartbeats 4000000 in
set_option maxRecDepth 100000 in
theorem k_X4_behindBinding_94 {p : Program} {l : Launch} {e : Env} {s : State} {m : MethodId} {args : Array Value} {below : List Frame} {meth : Method} {c : Code} {D : va_G} {cI cZ : ClassId} {a4 a2 a1 a3 a0 : Nat → Nat} {A : Nat → Prop} {r : Int32} {u1 : St × St × St × St × St} (C0 : mB p s m args meth c D cI cZ A cX4_behindBinding 8 (some .int) wsX4_behindBinding RX4) (N : Nat) : KP_X4_behindBinding_94 p l e s m args below meth c D cI cZ a4 a2 a1 a3 a0 A r u1 (f_X4_behindBinding_94 N) := by
  obtain ⟨hx, hb, hml, hr, hown, hts, hlocks, hA, hK, hN⟩ := id C0
  intro x y t k b s0 H locs ls hP hD hS hl h
  unfold f_X4_behindBinding_94 at h
  obtain ⟨rfl, rfl⟩ := so h
  exact ret_i C0 hP hD hS dX4_behindBinding_94
set_option maxHeartbeats 4000000 in
set_option maxRecDepth 100000 in
theorem c_X4_behindBinding (l : Launch) (D : va_G) (cI cZ : ClassId) (a4 a2 a1 a3 a0 : Nat → Nat) (N : Nat) (x y t k b : St) (x1 x2 : Int32) : MI l yX4_behindBinding wsX4_behindBinding ({ frames := 128, cells := 0, slots := 0, locals := 5046 } : Room) D cI cZ (wX4 a4 a2 a1 a3 a0 cI cZ) [.ref (a4 0), .int x1, .int x2] (x, y, t, k, b) (f_X4_behindBinding N x y t k b x1 x2) := by
  refine MI.of (cc := cX4_behindBinding) (maxL := 8) (ret := (some .int)) (own := RX4) (by decide) rfl rfl (Nat.le_of_ble_eq_true rfl) ?_
  intro r u1 h p e s m args below meth c A C0 H locs ls hP hD hS hl
  obtain ⟨hx, hb, hml, hr, hown, hts, hlocks, hA, hK, hN⟩ := id C0
  have hl : lv_has ls 8 [(0, .ref (a4 0)), (1, .int x1), (2, .int x2)] := hl
  unfold f_X4_behindBinding at h
  refine lv_aload_n hx hb dX4_behindBinding_0 rfl (lv_at hl 0 rfl) ?_
  refine va_get (D := D) (ci := 4) (v := .ref (a1 0)) (C := RX4) (T := TX4) (N := 7) hx hb hts in_X4_behindBinding_X4 hown hK hP 0 rfl rfl 1 (by decide) (hts (.fieldLink RX4 19 "TermLoom" "terms" "LTermLoom$TermStore;") (by decide +kernel)) (fun _ h9 => h9) rfl dX4_behindBinding_1 ?_
  refine lv_iload_n hx hb dX4_behindBinding_4 rfl (lv_at hl 2 rfl) ?_
  obtain ⟨q1, hq1, h⟩ := ob h
  refine mc_i (ws' := wX4 a4 a2 a1 a3 a0 cI cZ (x, y, q1.2.1, q1.2.2, b)) (wr := ((wX4o a4 a2 a1 a0 cI cZ x) ++ (wX2o a2 cI cZ y) ++ (wX0o a0 cI cZ b) : va_W)) [14, 15, 16, 17, 18, 19, 20, 21] [0, 1, 2, 3, 4, 5, 6, 7, 8, 9, 10, 11, 12, 13, 22, 23, 24, 25, 26, 27, 28] [0, 1, 2, 3, 4, 5, 6, 7, 8, 9, 10, 11, 12, 13, 21, 22, 23, 24, 25, 26, 27, 28, 14, 15, 16, 17, 18, 19, 20] (va_runV (As := [.int x2]) (rest := []) ⟨hx, hb, hml, hown, hts⟩ (c_X1_endOfClosed l D cI cZ a1 a3 N t k x2 q1.1 q1.2 hq1 H.size) (cwV 1 hts gX4_behindBinding_X1_endOfClosed rfl rfl rfl (by decide +kernel) ⟨Nat.le_of_ble_eq_true rfl, Nat.le_of_ble_eq_true rfl⟩) (pV [14, 15, 16, 17, 18, 19, 20, 21] hP hD hK hN rfl rfl rfl rfl) rfl rfl hl.1 rfl (lv_room (Nat.le_of_ble_eq_true rfl)) dX4_behindBinding_5 ⟨Nat.le_of_ble_eq_true rfl, Nat.le_of_ble_eq_true rfl⟩) hP hD hS hA rfl rfl rfl (by decide) rfl rfl (fun H locs hP hD hS => ?_)
  refine lv_istore_n (lv' := [(3, .int q1.1), (0, .ref (a4 0)), (1, .int x1), (2, .int x2)]) hx hb dX4_behindBinding_8 rfl hl (by decide) rfl (fun ls hl => ?_)
  refine lv_iload_n hx hb dX4_behindBinding_9 rfl (lv_at hl 0 rfl) ?_
  refine lv_iconst (v := (-1)) hx hb dX4_behindBinding_10 rfl ?_
  refine lv_icmp_ne (tgt := 16) hx hb dX4_behindBinding_11 (by decide) (fun hc2 => ?_) (fun hc2 => ?_)
  · rw [if_neg hc2] at h
    refine lv_aload_n hx hb dX4_behindBinding_16 rfl (lv_at hl 1 rfl) ?_
    refine va_get (D := D) (ci := 4) (v := .ref (a1 0)) (C := RX4) (T := TX4) (N := 7) hx hb hts in_X4_behindBinding_X4 hown hK hP 0 rfl rfl 1 (by decide) (hts (.fieldLink RX4 19 "TermLoom" "terms" "LTermLoom$TermStore;") (by decide +kernel)) (fun _ h9 => h9) rfl dX4_behindBinding_17 ?_
    refine lv_iload_n hx hb dX4_behindBinding_20 rfl (lv_at hl 2 rfl) ?_
    obtain ⟨q3, hq3, h⟩ := ob h
    refine mc_i (ws' := wX4 a4 a2 a1 a3 a0 cI cZ (x, y, q3.2.1, q3.2.2, b)) (wr := ((wX4o a4 a2 a1 a0 cI cZ x) ++ (wX2o a2 cI cZ y) ++ (wX0o a0 cI cZ b) : va_W)) [14, 15, 16, 17, 18, 19, 20, 21] [0, 1, 2, 3, 4, 5, 6, 7, 8, 9, 10, 11, 12, 13, 22, 23, 24, 25, 26, 27, 28] [0, 1, 2, 3, 4, 5, 6, 7, 8, 9, 10, 11, 12, 13, 21, 22, 23, 24, 25, 26, 27, 28, 14, 15, 16, 17, 18, 19, 20] (va_runV (As := [.int x1]) (rest := []) ⟨hx, hb, hml, hown, hts⟩ (c_X1_code l D cI cZ a1 a3 N q1.2.1 q1.2.2 x1 q3.1 q3.2 hq3 H.size) (cwV 1 hts gX4_behindBinding_X1_code rfl rfl rfl (by decide +kernel) ⟨Nat.le_of_ble_eq_true rfl, Nat.le_of_ble_eq_true rfl⟩) (pV [14, 15, 16, 17, 18, 19, 20, 21] hP hD hK hN rfl rfl rfl rfl) rfl rfl hl.1 rfl (lv_room (Nat.le_of_ble_eq_true rfl)) dX4_behindBinding_21 ⟨Nat.le_of_ble_eq_true rfl, Nat.le_of_ble_eq_true rfl⟩) hP hD hS hA rfl rfl rfl (by decide) rfl rfl (fun H locs hP hD hS => ?_)
    refine lv_istore (lv' := [(4, .int q3.1), (3, .int q1.1), (0, .ref (a4 0)), (1, .int x1), (2, .int x2)]) hx hb dX4_behindBinding_24 hl (by decide) rfl (fun ls hl => ?_)
    refine lv_aload_n hx hb dX4_behindBinding_26 rfl (lv_at hl 2 rfl) ?_
    refine va_get (D := D) (ci := 4) (v := .ref (a1 0)) (C := RX4) (T := TX4) (N := 7) hx hb hts in_X4_behindBinding_X4 hown hK hP 0 rfl rfl 1 (by decide) (hts (.fieldLink RX4 19 "TermLoom" "terms" "LTermLoom$TermStore;") (by decide +kernel)) (fun _ h9 => h9) rfl dX4_behindBinding_27 ?_
    refine lv_iload_n hx hb dX4_behindBinding_30 rfl (lv_at hl 3 rfl) ?_
    obtain ⟨q4, hq4, h⟩ := ob h
    refine mc_i (ws' := wX4 a4 a2 a1 a3 a0 cI cZ (x, y, q4.2.1, q4.2.2, b)) (wr := ((wX4o a4 a2 a1 a0 cI cZ x) ++ (wX2o a2 cI cZ y) ++ (wX0o a0 cI cZ b) : va_W)) [14, 15, 16, 17, 18, 19, 20, 21] [0, 1, 2, 3, 4, 5, 6, 7, 8, 9, 10, 11, 12, 13, 22, 23, 24, 25, 26, 27, 28] [0, 1, 2, 3, 4, 5, 6, 7, 8, 9, 10, 11, 12, 13, 21, 22, 23, 24, 25, 26, 27, 28, 14, 15, 16, 17, 18, 19, 20] (va_runV (As := [.int x1]) (rest := []) ⟨hx, hb, hml, hown, hts⟩ (c_X1_symbolType l D cI cZ a1 a3 N q3.2.1 q3.2.2 x1 q4.1 q4.2 hq4 H.size) (cwV 1 hts gX4_behindBinding_X1_symbolType rfl rfl rfl (by decide +kernel) ⟨Nat.le_of_ble_eq_true rfl, Nat.le_of_ble_eq_true rfl⟩) (pV [14, 15, 16, 17, 18, 19, 20, 21] hP hD hK hN rfl rfl rfl rfl) rfl rfl hl.1 rfl (lv_room (Nat.le_of_ble_eq_true rfl)) dX4_behindBinding_31 ⟨Nat.le_of_ble_eq_true rfl, Nat.le_of_ble_eq_true rfl⟩) hP hD hS hA rfl rfl rfl (by decide) rfl rfl (fun H locs hP hD hS => ?_)
    refine lv_istore (lv' := [(5, .int q4.1), (4, .int q3.1), (3, .int q1.1), (0, .ref (a4 0)), (1, .int x1), (2, .int x2)]) hx hb dX4_behindBinding_34 hl (by decide) rfl (fun ls hl => ?_)
    refine lv_aload_n hx hb dX4_behindBinding_36 rfl (lv_at hl 3 rfl) ?_
    refine va_get (D := D) (ci := 4) (v := .ref (a0 0)) (C := RX4) (T := TX4) (N := 7) hx hb hts in_X4_behindBinding_X4 hown hK hP 0 rfl rfl 2 (by decide) (hts (.fieldLink RX4 26 "TermLoom" "bindings" "LTermLoom$Bindings;") (by decide +kernel)) (fun _ h9 => h9) rfl dX4_behindBinding_37 ?_
    refine lv_iload hx hb dX4_behindBinding_40 (lv_at hl 1 rfl) ?_
    refine lv_iload hx hb dX4_behindBinding_42 (lv_at hl 0 rfl) ?_
    obtain ⟨q5, hq5, h⟩ := ob h
    refine mc_i (ws' := wX4 a4 a2 a1 a3 a0 cI cZ (x, y, q4.2.1, q4.2.2, q5.2)) (wr := ((wX4o a4 a2 a1 a0 cI cZ x) ++ (wX2o a2 cI cZ y) ++ (wX1o a1 a3 cI cZ q4.2.1) ++ (wX3o a3 cI cZ q4.2.2) : va_W)) [22, 23, 24, 25, 26, 27, 28] [0, 1, 2, 3, 4, 5, 6, 7, 8, 9, 10, 11, 12, 13, 14, 15, 16, 17, 18, 19, 20, 21] [0, 1, 2, 3, 4, 5, 6, 7, 8, 9, 10, 11, 12, 13, 14, 15, 16, 17, 18, 19, 20, 21, 22, 23, 24, 25, 26, 27, 28] (va_runV (As := [.int q3.1, .int q4.1]) (rest := []) ⟨hx, hb, hml, hown, hts⟩ (c_X0_find l D cI cZ a0 N b q3.1 q4.1 q5.1 q5.2 hq5 H.size) (cwV 2 hts gX4_behindBinding_X0_find rfl rfl rfl (by decide +kernel) ⟨Nat.le_of_ble_eq_true rfl, Nat.le_of_ble_eq_true rfl⟩) (pV [22, 23, 24, 25, 26, 27, 28] hP hD hK hN rfl rfl rfl rfl) rfl rfl hl.1 rfl (lv_room (Nat.le_of_ble_eq_true rfl)) dX4_behindBinding_44 ⟨Nat.le_of_ble_eq_true rfl, Nat.le_of_ble_eq_true rfl⟩) hP hD hS hA rfl rfl rfl (by decide) rfl rfl (fun H locs hP hD hS => ?_)
    refine lv_istore (lv' := [(6, .int q5.1), (5, .int q4.1), (4, .int q3.1), (3, .int q1.1), (0, .ref (a4 0)), (1, .int x1), (2, .int x2)]) hx hb dX4_behindBinding_47 hl (by decide) rfl (fun ls hl => ?_)
    refine lv_iload hx hb dX4_behindBinding_49 (lv_at hl 0 rfl) ?_
    refine lv_iconst (v := (-1)) hx hb dX4_behindBinding_51 rfl ?_
    refine lv_icmp_eq (tgt := 95) hx hb dX4_behindBinding_52 (by decide) (fun hc6 => ?_) (fun hc6 => ?_)
    · rw [if_pos hc6] at h
      refine lv_aload_n hx hb dX4_behindBinding_95 rfl (lv_at hl 4 rfl) ?_
      refine va_get (D := D) (ci := 4) (v := .ref (a2 0)) (C := RX4) (T := TX4) (N := 7) hx hb hts in_X4_behindBinding_X4 hown hK hP 0 rfl rfl 0 (by decide) (hts (.fieldLink RX4 10 "TermLoom" "types" "LTermLoom$TypeTable;") (by decide +kernel)) (fun _ h9 => h9) rfl dX4_behindBinding_96 ?_
      refine lv_iload hx hb dX4_behindBinding_99 (lv_at hl 1 rfl) ?_
      refine lv_aload_n hx hb dX4_behindBinding_101 rfl (lv_at hl 4 rfl) ?_
      refine va_get (D := D) (ci := 4) (v := .ref (a1 0)) (C := RX4) (T := TX4) (N := 7) hx hb hts in_X4_behindBinding_X4 hown hK hP 0 rfl rfl 1 (by decide) (hts (.fieldLink RX4 19 "TermLoom" "terms" "LTermLoom$TermStore;") (by decide +kernel)) (fun _ h9 => h9) rfl dX4_behindBinding_102 ?_
      refine lv_iload_n hx hb dX4_behindBinding_105 rfl (lv_at hl 6 rfl) ?_
      obtain ⟨q7, hq7, h⟩ := ob h
      refine mc_i (ws' := wX4 a4 a2 a1 a3 a0 cI cZ (x, y, q7.2.1, q7.2.2, q5.2)) (wr := ((wX4o a4 a2 a1 a0 cI cZ x) ++ (wX2o a2 cI cZ y) ++ (wX0o a0 cI cZ q5.2) : va_W)) [14, 15, 16, 17, 18, 19, 20, 21] [0, 1, 2, 3, 4, 5, 6, 7, 8, 9, 10, 11, 12, 13, 22, 23, 24, 25, 26, 27, 28] [0, 1, 2, 3, 4, 5, 6, 7, 8, 9, 10, 11, 12, 13, 21, 22, 23, 24, 25, 26, 27, 28, 14, 15, 16, 17, 18, 19, 20] (va_runV (As := [.int x2]) (rest := [.int q4.1, .ref (a2 0)]) ⟨hx, hb, hml, hown, hts⟩ (c_X1_symbolType l D cI cZ a1 a3 N q4.2.1 q4.2.2 x2 q7.1 q7.2 hq7 H.size) (cwV 1 hts gX4_behindBinding_X1_symbolType rfl rfl rfl (by decide +kernel) ⟨Nat.le_of_ble_eq_true rfl, Nat.le_of_ble_eq_true rfl⟩) (pV [14, 15, 16, 17, 18, 19, 20, 21] hP hD hK hN rfl rfl rfl rfl) rfl rfl hl.1 rfl (lv_room (Nat.le_of_ble_eq_true rfl)) dX4_behindBinding_106 ⟨Nat.le_of_ble_eq_true rfl, Nat.le_of_ble_eq_true rfl⟩) hP hD hS hA rfl rfl rfl (by decide) rfl rfl (fun H locs hP hD hS => ?_)
      obtain ⟨q8, hq8, h⟩ := ob h
      refine mc_i (ws' := wX4 a4 a2 a1 a3 a0 cI cZ (x, q8.2, q7.2.1, q7.2.2, q5.2)) (wr := ((wX4o a4 a2 a1 a0 cI cZ x) ++ (wX1o a1 a3 cI cZ q7.2.1) ++ (wX3o a3 cI cZ q7.2.2) ++ (wX0o a0 cI cZ q5.2) : va_W)) [3, 4, 5, 6, 7, 8, 9, 10, 11, 12, 13] [0, 1, 2, 14, 15, 16, 17, 18, 19, 20, 21, 22, 23, 24, 25, 26, 27, 28] [0, 1, 2, 18, 19, 20, 21, 22, 23, 24, 25, 26, 27, 28, 3, 4, 5, 6, 7, 8, 9, 10, 11, 12, 13, 14, 15, 16, 17] (va_runV (As := [.int q4.1, .int q7.1]) (rest := []) ⟨hx, hb, hml, hown, hts⟩ (c_X2_fits l D cI cZ a2 N y q4.1 q7.1 q8.1 q8.2 hq8 H.size) (cwV 2 hts gX4_behindBinding_X2_fits rfl rfl rfl (by decide +kernel) ⟨Nat.le_of_ble_eq_true rfl, Nat.le_of_ble_eq_true rfl⟩) (pV [3, 4, 5, 6, 7, 8, 9, 10, 11, 12, 13] hP hD hK hN rfl rfl rfl rfl) rfl rfl hl.1 rfl (lv_room (Nat.le_of_ble_eq_true rfl)) dX4_behindBinding_109 ⟨Nat.le_of_ble_eq_true rfl, Nat.le_of_ble_eq_true rfl⟩) hP hD hS hA rfl rfl rfl (by decide) rfl rfl (fun H locs hP hD hS => ?_)
      refine lv_if_ne (tgt := 117) hx hb dX4_behindBinding_112 (by decide) (fun hc9 => ?_) (fun hc9 => ?_)
      · rw [if_neg hc9] at h
        refine lv_aload_n hx hb dX4_behindBinding_117 rfl (lv_at hl 4 rfl) ?_
        refine va_get (D := D) (ci := 4) (v := .ref (a0 0)) (C := RX4) (T := TX4) (N := 7) hx hb hts in_X4_behindBinding_X4 hown hK hP 0 rfl rfl 2 (by decide) (hts (.fieldLink RX4 26 "TermLoom" "bindings" "LTermLoom$Bindings;") (by decide +kernel)) (fun _ h9 => h9) rfl dX4_behindBinding_118 ?_
        refine lv_iload hx hb dX4_behindBinding_121 (lv_at hl 2 rfl) ?_
        refine lv_iload hx hb dX4_behindBinding_123 (lv_at hl 1 rfl) ?_
        refine lv_iload_n hx hb dX4_behindBinding_125 rfl (lv_at hl 6 rfl) ?_
        refine lv_iload_n hx hb dX4_behindBinding_126 rfl (lv_at hl 3 rfl) ?_
        obtain ⟨q10, hq10, h⟩ := ob h
        refine mc_v (ws' := wX4 a4 a2 a1 a3 a0 cI cZ (x, q8.2, q7.2.1, q7.2.2, q10)) (wr := ((wX4o a4 a2 a1 a0 cI cZ x) ++ (wX2o a2 cI cZ q8.2) ++ (wX1o a1 a3 cI cZ q7.2.1) ++ (wX3o a3 cI cZ q7.2.2) : va_W)) [22, 23, 24, 25, 26, 27, 28] [0, 1, 2, 3, 4, 5, 6, 7, 8, 9, 10, 11, 12, 13, 14, 15, 16, 17, 18, 19, 20, 21] [0, 1, 2, 3, 4, 5, 6, 7, 8, 9, 10, 11, 12, 13, 14, 15, 16, 17, 18, 19, 20, 21, 22, 23, 24, 25, 26, 27, 28] (va_runV (As := [.int q3.1, .int q4.1, .int x2, .int q1.1]) (rest := []) ⟨hx, hb, hml, hown, hts⟩ (c_X0_add l D cI cZ a0 N q5.2 q3.1 q4.1 x2 q1.1 q10 hq10 H.size) (cwV 4 hts gX4_behindBinding_X0_add rfl rfl rfl (by decide +kernel) ⟨Nat.le_of_ble_eq_true rfl, Nat.le_of_ble_eq_true rfl⟩) (pV [22, 23, 24, 25, 26, 27, 28] hP hD hK hN rfl rfl rfl rfl) rfl rfl hl.1 rfl (lv_room (Nat.le_of_ble_eq_true rfl)) dX4_behindBinding_127 ⟨Nat.le_of_ble_eq_true rfl, Nat.le_of_ble_eq_true rfl⟩) hP hD hS hA rfl rfl rfl (by decide) rfl rfl (fun H locs hP hD hS => ?_)
        refine lv_iload_n hx hb dX4_behindBinding_130 rfl (lv_at hl 3 rfl) ?_
        obtain ⟨rfl, rfl⟩ := so h
        exact ret_i C0 hP hD hS dX4_behindBinding_131
      · rw [if_pos hc9] at h
        refine lv_iconst (v := (-1)) hx hb dX4_behindBinding_115 rfl ?_
        obtain ⟨rfl, rfl⟩ := so h
        exact ret_i C0 hP hD hS dX4_behindBinding_116
    · rw [if_neg hc6] at h
      refine lv_aload_n hx hb dX4_behindBinding_55 rfl (lv_at hl 4 rfl) ?_
      refine va_get (D := D) (ci := 4) (v := .ref (a1 0)) (C := RX4) (T := TX4) (N := 7) hx hb hts in_X4_behindBinding_X4 hown hK hP 0 rfl rfl 1 (by decide) (hts (.fieldLink RX4 19 "TermLoom" "terms" "LTermLoom$TermStore;") (by decide +kernel)) (fun _ h9 => h9) rfl dX4_behindBinding_56 ?_
      refine lv_aload_n hx hb dX4_behindBinding_59 rfl (lv_at hl 4 rfl) ?_
      refine va_get (D := D) (ci := 4) (v := .ref (a0 0)) (C := RX4) (T := TX4) (N := 7) hx hb hts in_X4_behindBinding_X4 hown hK hP 0 rfl rfl 2 (by decide) (hts (.fieldLink RX4 26 "TermLoom" "bindings" "LTermLoom$Bindings;") (by decide +kernel)) (fun _ h9 => h9) rfl dX4_behindBinding_60 ?_
      refine lv_iload hx hb dX4_behindBinding_63 (lv_at hl 0 rfl) ?_
      obtain ⟨q11, hq11, h⟩ := ob h
      refine mc_i (ws' := wX4 a4 a2 a1 a3 a0 cI cZ (x, y, q4.2.1, q4.2.2, q11.2)) (wr := ((wX4o a4 a2 a1 a0 cI cZ x) ++ (wX2o a2 cI cZ y) ++ (wX1o a1 a3 cI cZ q4.2.1) ++ (wX3o a3 cI cZ q4.2.2) : va_W)) [22, 23, 24, 25, 26, 27, 28] [0, 1, 2, 3, 4, 5, 6, 7, 8, 9, 10, 11, 12, 13, 14, 15, 16, 17, 18, 19, 20, 21] [0, 1, 2, 3, 4, 5, 6, 7, 8, 9, 10, 11, 12, 13, 14, 15, 16, 17, 18, 19, 20, 21, 22, 23, 24, 25, 26, 27, 28] (va_runV (As := [.int q5.1]) (rest := [.ref (a1 0)]) ⟨hx, hb, hml, hown, hts⟩ (c_X0_from l D cI cZ a0 N q5.2 q5.1 q11.1 q11.2 hq11 H.size) (cwV 1 hts gX4_behindBinding_X0_from rfl rfl rfl (by decide +kernel) ⟨Nat.le_of_ble_eq_true rfl, Nat.le_of_ble_eq_true rfl⟩) (pV [22, 23, 24, 25, 26, 27, 28] hP hD hK hN rfl rfl rfl rfl) rfl rfl hl.1 rfl (lv_room (Nat.le_of_ble_eq_true rfl)) dX4_behindBinding_65 ⟨Nat.le_of_ble_eq_true rfl, Nat.le_of_ble_eq_true rfl⟩) hP hD hS hA rfl rfl rfl (by decide) rfl rfl (fun H locs hP hD hS => ?_)
      refine lv_aload_n hx hb dX4_behindBinding_68 rfl (lv_at hl 4 rfl) ?_
      refine va_get (D := D) (ci := 4) (v := .ref (a0 0)) (C := RX4) (T := TX4) (N := 7) hx hb hts in_X4_behindBinding_X4 hown hK hP 0 rfl rfl 2 (by decide) (hts (.fieldLink RX4 26 "TermLoom" "bindings" "LTermLoom$Bindings;") (by decide +kernel)) (fun _ h9 => h9) rfl dX4_behindBinding_69 ?_
      refine lv_iload hx hb dX4_behindBinding_72 (lv_at hl 0 rfl) ?_
      obtain ⟨q12, hq12, h⟩ := ob h
      refine mc_i (ws' := wX4 a4 a2 a1 a3 a0 cI cZ (x, y, q4.2.1, q4.2.2, q12.2)) (wr := ((wX4o a4 a2 a1 a0 cI cZ x) ++ (wX2o a2 cI cZ y) ++ (wX1o a1 a3 cI cZ q4.2.1) ++ (wX3o a3 cI cZ q4.2.2) : va_W)) [22, 23, 24, 25, 26, 27, 28] [0, 1, 2, 3, 4, 5, 6, 7, 8, 9, 10, 11, 12, 13, 14, 15, 16, 17, 18, 19, 20, 21] [0, 1, 2, 3, 4, 5, 6, 7, 8, 9, 10, 11, 12, 13, 14, 15, 16, 17, 18, 19, 20, 21, 22, 23, 24, 25, 26, 27, 28] (va_runV (As := [.int q5.1]) (rest := [.int q11.1, .ref (a1 0)]) ⟨hx, hb, hml, hown, hts⟩ (c_X0_end l D cI cZ a0 N q11.2 q5.1 q12.1 q12.2 hq12 H.size) (cwV 1 hts gX4_behindBinding_X0_end rfl rfl rfl (by decide +kernel) ⟨Nat.le_of_ble_eq_true rfl, Nat.le_of_ble_eq_true rfl⟩) (pV [22, 23, 24, 25, 26, 27, 28] hP hD hK hN rfl rfl rfl rfl) rfl rfl hl.1 rfl (lv_room (Nat.le_of_ble_eq_true rfl)) dX4_behindBinding_74 ⟨Nat.le_of_ble_eq_true rfl, Nat.le_of_ble_eq_true rfl⟩) hP hD hS hA rfl rfl rfl (by decide) rfl rfl (fun H locs hP hD hS => ?_)
      refine lv_iload_n hx hb dX4_behindBinding_77 rfl (lv_at hl 6 rfl) ?_
      refine lv_iload_n hx hb dX4_behindBinding_78 rfl (lv_at hl 3 rfl) ?_
      obtain ⟨q13, hq13, h⟩ := ob h
      refine mc_i (ws' := wX4 a4 a2 a1 a3 a0 cI cZ (x, y, q13.2.1, q13.2.2, q12.2)) (wr := ((wX4o a4 a2 a1 a0 cI cZ x) ++ (wX2o a2 cI cZ y) ++ (wX0o a0 cI cZ q12.2) : va_W)) [14, 15, 16, 17, 18, 19, 20, 21] [0, 1, 2, 3, 4, 5, 6, 7, 8, 9, 10, 11, 12, 13, 22, 23, 24, 25, 26, 27, 28] [0, 1, 2, 3, 4, 5, 6, 7, 8, 9, 10, 11, 12, 13, 21, 22, 23, 24, 25, 26, 27, 28, 14, 15, 16, 17, 18, 19, 20] (va_runV (As := [.int q11.1, .int q12.1, .int x2, .int q1.1]) (rest := []) ⟨hx, hb, hml, hown, hts⟩ (c_X1_alike l D cI cZ a1 a3 N q4.2.1 q4.2.2 q11.1 q12.1 x2 q1.1 q13.1 q13.2 hq13 H.size) (cwV 4 hts gX4_behindBinding_X1_alike rfl rfl rfl (by decide +kernel) ⟨Nat.le_of_ble_eq_true rfl, Nat.le_of_ble_eq_true rfl⟩) (pV [14, 15, 16, 17, 18, 19, 20, 21] hP hD hK hN rfl rfl rfl rfl) rfl rfl hl.1 rfl (lv_room (Nat.le_of_ble_eq_true rfl)) dX4_behindBinding_79 ⟨Nat.le_of_ble_eq_true rfl, Nat.le_of_ble_eq_true rfl⟩) hP hD hS hA rfl rfl rfl (by decide) rfl rfl (fun H locs hP hD hS => ?_)
      refine lv_istore (lv' := [(7, .int q13.1), (6, .int q5.1), (5, .int q4.1), (4, .int q3.1), (3, .int q1.1), (0, .ref (a4 0)), (1, .int x1), (2, .int x2)]) hx hb dX4_behindBinding_82 hl (by decide) rfl (fun ls hl => ?_)
      refine lv_iload hx hb dX4_behindBinding_84 (lv_at hl 0 rfl) ?_
      refine lv_if_eq (tgt := 93) hx hb dX4_behindBinding_86 (by decide) (fun hc14 => ?_) (fun hc14 => ?_)
      · rw [if_pos hc14] at h
        refine lv_iconst (v := (-1)) hx hb dX4_behindBinding_93 rfl ?_
        exact k_X4_behindBinding_94 C0 N x y q13.2.1 q13.2.2 q12.2 (-1) _ _ _ hP hD hS (lv_sub hl [] rfl) h
      · rw [if_neg hc14] at h
        refine lv_iload_n hx hb dX4_behindBinding_89 rfl (lv_at hl 4 rfl) ?_
        refine lv_goto (tgt := 94) hx hb dX4_behindBinding_90 (by decide) ?_
        exact k_X4_behindBinding_94 C0 N x y q13.2.1 q13.2.2 q12.2 q1.1 _ _ _ hP hD hS (lv_sub hl [] rfl) h
  · rw [if_pos hc2] at h
    refine lv_iconst (v := (-1)) hx hb dX4_behindBinding_14 rfl ?_
    obtain ⟨rfl, rfl⟩ := so h
    exact ret_i C0 hP hD hS dX4_behindBinding_15
