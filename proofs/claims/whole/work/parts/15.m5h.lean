theorem in_X5_isClosed_X5 : ∀ w ∈ u_ws RX5 TX5 30, w ∈ wsX5_isClosed := by decide +kernel
def f_X5_isClosed_101 (N : Nat) (k5 : St → Int32 → Int32 → Int32 → Option (Int32 × St)) (σ : St) (x2 x3 x4 : Int32) : Option (Int32 × St) := k5 σ x2 x3 (x4 + 1)
def f_X5_isClosed_71 (N : Nat) (k5 : St → Int32 → Int32 → Int32 → Option (Int32 × St)) (σ : St) (x2 x3 x4 : Int32) : Option (Int32 × St) := if x4 < 0 ∨ 34100 ≤ (x4).toNatClampNeg then none else if (σ 20 (x4).toNatClampNeg) = (-2) then (f_X5_endOf N σ x4).bind (fun q2 => if x3 < 0 ∨ 130 ≤ (x3).toNatClampNeg then none else bnd (up2 q2.2 24 (x3).toNatClampNeg q2.1) (fun σ3 => f_X5_isClosed_101 N k5 σ3 x2 (x3 + 1) x4)) else f_X5_isClosed_101 N k5 σ x2 x3 x4
def f_X5_isClosed_34 (N : Nat) (k5 : St → Int32 → Int32 → Int32 → Option (Int32 × St)) (σ : St) (x2 x3 x4 : Int32) : Option (Int32 × St) := if x4 < 0 ∨ 34100 ≤ (x4).toNatClampNeg then none else if (σ 20 (x4).toNatClampNeg) < 0 then f_X5_isClosed_71 N k5 σ x2 x3 x4 else if x4 < 0 ∨ 34100 ≤ (x4).toNatClampNeg then none else if ((σ 20 (x4).toNatClampNeg) - (σ 20 (x4).toNatClampNeg) / 4 * 4) = 0 then if x4 < 0 ∨ 34100 ≤ (x4).toNatClampNeg then none else if ((σ 20 (x4).toNatClampNeg) / 4) < x3 then f_X5_isClosed_71 N k5 σ x2 x3 x4 else some (0, σ) else f_X5_isClosed_71 N k5 σ x2 x3 x4
def f_X5_isClosed_11 (N : Nat) (k5 : St → Int32 → Int32 → Int32 → Option (Int32 × St)) : Nat → St → Int32 → Int32 → Int32 → Option (Int32 × St)
  | 0, _, _, _, _ => none
  | n + 1, σ, x2, x3, x4 => if x3 ≤ 0 then f_X5_isClosed_34 N k5 σ x2 x3 x4 else if (x3 - 1) < 0 ∨ 130 ≤ ((x3 - 1)).toNatClampNeg then none else if x4 < (σ 24 ((x3 - 1)).toNatClampNeg) then f_X5_isClosed_34 N k5 σ x2 x3 x4 else f_X5_isClosed_11 N k5 n σ x2 (x3 + (-1)) x4
def f_X5_isClosed_5 (N : Nat) : Nat → St → Int32 → Int32 → Int32 → Option (Int32 × St)
  | 0, _, _, _, _ => none
  | n + 1, σ, x2, x3, x4 => if x2 ≤ x4 then some (1, σ) else f_X5_isClosed_11 N (f_X5_isClosed_5 N n) N σ x2 x3 x4
def f_X5_isClosed (N : Nat) (σ : St) (x1 x2 : Int32) : Option (Int32 × St) := f_X5_isClosed_5 N N σ x2 0 x1
abbrev KP_X5_isClosed_101 (p : Program) (l : Launch) (e : Env) (s : State) (m : MethodId) (args : Array Value) (below : List Frame) (meth : Method) (c : Code) (D : va_G) (cI cZ : ClassId) (a5 : Nat → Nat) (A : Nat → Prop) (r : Int32) (u1 : St) (K : St → Int32 → Int32 → Int32 → Option (Int32 × St)) : Prop := ∀ (σ : St) (x2 x3 x4 : Int32) (H : Heap) (locs : List Loc) (ls : Array Slot), va_P D vwCl (wX5 a5 cI cZ σ) H → va_D A (wX5 a5 cI cZ σ) → va_S A s.heap H locs → lv_has ls 5 [(0, .ref (a5 0)), (2, .int x2), (3, .int x3), (4, .int x4)] → K σ x2 x3 x4 = some (r, u1) → W p l e ({ frames := 1, cells := 0, slots := 0, locals := 23 } : Room) s m args below meth c H locs 0 0 (QI below args s D cI cZ (wX5 a5 cI cZ) A r u1) (F0 m 101 ls [])
abbrev KP_X5_isClosed_71 (p : Program) (l : Launch) (e : Env) (s : State) (m : MethodId) (args : Array Value) (below : List Frame) (meth : Method) (c : Code) (D : va_G) (cI cZ : ClassId) (a5 : Nat → Nat) (A : Nat → Prop) (r : Int32) (u1 : St) (K : St → Int32 → Int32 → Int32 → Option (Int32 × St)) : Prop := ∀ (σ : St) (x2 x3 x4 : Int32) (H : Heap) (locs : List Loc) (ls : Array Slot), va_P D vwCl (wX5 a5 cI cZ σ) H → va_D A (wX5 a5 cI cZ σ) → va_S A s.heap H locs → lv_has ls 5 [(0, .ref (a5 0)), (2, .int x2), (3, .int x3), (4, .int x4)] → K σ x2 x3 x4 = some (r, u1) → W p l e ({ frames := 1, cells := 0, slots := 0, locals := 23 } : Room) s m args below meth c H locs 0 0 (QI below args s D cI cZ (wX5 a5 cI cZ) A r u1) (F0 m 71 ls [])
abbrev KP_X5_isClosed_34 (p : Program) (l : Launch) (e : Env) (s : State) (m : MethodId) (args : Array Value) (below : List Frame) (meth : Method) (c : Code) (D : va_G) (cI cZ : ClassId) (a5 : Nat → Nat) (A : Nat → Prop) (r : Int32) (u1 : St) (K : St → Int32 → Int32 → Int32 → Option (Int32 × St)) : Prop := ∀ (σ : St) (x2 x3 x4 : Int32) (H : Heap) (locs : List Loc) (ls : Array Slot), va_P D vwCl (wX5 a5 cI cZ σ) H → va_D A (wX5 a5 cI cZ σ) → va_S A s.heap H locs → lv_has ls 5 [(0, .ref (a5 0)), (2, .int x2), (3, .int x3), (4, .int x4)] → K σ x2 x3 x4 = some (r, u1) → W p l e ({ frames := 1, cells := 0, slots := 0, locals := 23 } : Room) s m args below meth c H locs 0 0 (QI below args s D cI cZ (wX5 a5 cI cZ) A r u1) (F0 m 34 ls [])
abbrev KP_X5_isClosed_11 (p : Program) (l : Launch) (e : Env) (s : State) (m : MethodId) (args : Array Value) (below : List Frame) (meth : Method) (c : Code) (D : va_G) (cI cZ : ClassId) (a5 : Nat → Nat) (A : Nat → Prop) (r : Int32) (u1 : St) (K : St → Int32 → Int32 → Int32 → Option (Int32 × St)) : Prop := ∀ (σ : St) (x2 x3 x4 : Int32) (H : Heap) (locs : List Loc) (ls : Array Slot), va_P D vwCl (wX5 a5 cI cZ σ) H → va_D A (wX5 a5 cI cZ σ) → va_S A s.heap H locs → lv_has ls 5 [(0, .ref (a5 0)), (2, .int x2), (3, .int x3), (4, .int x4)] → K σ x2 x3 x4 = some (r, u1) → W p l e ({ frames := 1, cells := 0, slots := 0, locals := 23 } : Room) s m args below meth c H locs 0 0 (QI below args s D cI cZ (wX5 a5 cI cZ) A r u1) (F0 m 11 ls [])
abbrev KP_X5_isClosed_5 (p : Program) (l : Launch) (e : Env) (s : State) (m : MethodId) (args : Array Value) (below : List Frame) (meth : Method) (c : Code) (D : va_G) (cI cZ : ClassId) (a5 : Nat → Nat) (A : Nat → Prop) (r : Int32) (u1 : St) (K : St → Int32 → Int32 → Int32 → Option (Int32 × St)) : Prop := ∀ (σ : St) (x2 x3 x4 : Int32) (H : Heap) (locs : List Loc) (ls : Array Slot), va_P D vwCl (wX5 a5 cI cZ σ) H → va_D A (wX5 a5 cI cZ σ) → va_S A s.heap H locs → lv_has ls 5 [(0, .ref (a5 0)), (2, .int x2), (3, .int x3), (4, .int x4)] → K σ x2 x3 x4 = some (r, u1) → W p l e ({ frames := 1, cells := 0, slots := 0, locals := 23 } : Room) s m args below meth c H locs 0 0 (QI below args s D cI cZ (wX5 a5 cI cZ) A r u1) (F0 m 5 ls [])
set_option maxHeartbeats 4000000 in
set_option maxRecDepth 100000 in
theorem k_X5_isClosed_101 {p : Program} {l : Launch} {e : Env} {s : State} {m : MethodId} {args : Array Value} {below : List Frame} {meth : Method} {c : Code} {D : va_G} {cI cZ : ClassId} {a5 : Nat → Nat} {A : Nat → Prop} {r : Int32} {u1 : St} (C0 : mB p s m args meth c D cI cZ A cX5_isClosed 5 (some .boolean) wsX5_isClosed RX5) (N : Nat) (k5 : St → Int32 → Int32 → Int32 → Option (Int32 × St)) (hk5 : KP_X5_isClosed_5 p l e s m args below meth c D cI cZ a5 A r u1 k5) : KP_X5_isClosed_101 p l e s m args below meth c D cI cZ a5 A r u1 (f_X5_isClosed_101 N k5) := by
  obtain ⟨hx, hb, hml, hr, hown, hts, hlocks, hA, hK, hN⟩ := id C0
  intro σ x2 x3 x4 H locs ls hP hD hS hl h
  unfold f_X5_isClosed_101 at h
  refine lv_iinc (v := (x4 + 1)) (lv' := [(4, .int (x4 + 1)), (0, .ref (a5 0)), (2, .int x2), (3, .int x3)]) hx hb dX5_isClosed_101 hl (k := 3) rfl rfl (by decide) rfl (fun ls hl => ?_)
  refine lv_goto (tgt := 5) hx hb dX5_isClosed_104 (by decide) ?_
  exact hk5 σ x2 x3 (x4 + 1) _ _ _ hP hD hS (lv_sub hl [1, 2, 3, 0] rfl) h
set_option maxHeartbeats 4000000 in
set_option maxRecDepth 100000 in
theorem k_X5_isClosed_71 {p : Program} {l : Launch} {e : Env} {s : State} {m : MethodId} {args : Array Value} {below : List Frame} {meth : Method} {c : Code} {D : va_G} {cI cZ : ClassId} {a5 : Nat → Nat} {A : Nat → Prop} {r : Int32} {u1 : St} (C0 : mB p s m args meth c D cI cZ A cX5_isClosed 5 (some .boolean) wsX5_isClosed RX5) (N : Nat) (k5 : St → Int32 → Int32 → Int32 → Option (Int32 × St)) (hk5 : KP_X5_isClosed_5 p l e s m args below meth c D cI cZ a5 A r u1 k5) : KP_X5_isClosed_71 p l e s m args below meth c D cI cZ a5 A r u1 (f_X5_isClosed_71 N k5) := by
  obtain ⟨hx, hb, hml, hr, hown, hts, hlocks, hA, hK, hN⟩ := id C0
  intro σ x2 x3 x4 H locs ls hP hD hS hl h
  unfold f_X5_isClosed_71 at h
  refine lv_aload_n hx hb dX5_isClosed_71 rfl (lv_at hl 0 rfl) ?_
  refine va_get (D := D) (ci := 5) (v := .ref (a5 21)) (C := RX5) (T := TX5) (N := 30) hx hb hts in_X5_isClosed_X5 hown hK hP 0 rfl rfl 20 (by decide) (hts (.fieldLink RX5 55 "TermLoomModel" "symbol" "[I") (by decide +kernel)) (fun _ h9 => h9) rfl dX5_isClosed_72 ?_
  refine lv_iload hx hb dX5_isClosed_75 (lv_at hl 3 rfl) ?_
  by_cases hi : x4 < 0 ∨ 34100 ≤ (x4).toNatClampNeg
  · rw [if_pos hi] at h; exact no h
  rw [if_neg hi] at h
  refine va_iald (f := (σ 20)) hx hb hK hP 14 0 rfl rfl (i := x4) hi dX5_isClosed_77 ?_
  refine lv_bipush (v := (-2)) hx hb dX5_isClosed_78 rfl ?_
  refine lv_icmp_eq (tgt := 86) hx hb dX5_isClosed_80 (by decide) (fun hc1 => ?_) (fun hc1 => ?_)
  · rw [if_pos hc1] at h
    refine lv_aload_n hx hb dX5_isClosed_86 rfl (lv_at hl 0 rfl) ?_
    refine va_get (D := D) (ci := 5) (v := .ref (a5 25)) (C := RX5) (T := TX5) (N := 30) hx hb hts in_X5_isClosed_X5 hown hK hP 0 rfl rfl 24 (by decide) (hts (.fieldLink RX5 67 "TermLoomModel" "ends" "[I") (by decide +kernel)) (fun _ h9 => h9) rfl dX5_isClosed_87 ?_
    refine lv_iload_n hx hb dX5_isClosed_90 rfl (lv_at hl 2 rfl) ?_
    refine lv_aload_n hx hb dX5_isClosed_91 rfl (lv_at hl 0 rfl) ?_
    refine lv_iload hx hb dX5_isClosed_92 (lv_at hl 3 rfl) ?_
    obtain ⟨q2, hq2, h⟩ := ob h
    refine mc_i (ws' := wX5 a5 cI cZ q2.2) (wr := ([] : va_W)) [0, 1, 2, 3, 4, 5, 6, 7, 8, 9, 10, 11, 12, 13, 14, 15, 16, 17, 18, 19, 20, 21, 22] [] [0, 1, 2, 3, 4, 5, 6, 7, 8, 9, 10, 11, 12, 13, 14, 15, 16, 17, 18, 19, 20, 21, 22] (va_runV (As := [.int x4]) (rest := [.int x3, .ref (a5 25)]) ⟨hx, hb, hml, hown, hts⟩ (c_X5_endOf l D cI cZ a5 N σ x4 q2.1 q2.2 hq2 H.size) (cwV 1 hts gX5_isClosed_X5_endOf rfl rfl rfl (by decide +kernel) ⟨Nat.le_of_ble_eq_true rfl, Nat.le_of_ble_eq_true rfl⟩) (pV [0, 1, 2, 3, 4, 5, 6, 7, 8, 9, 10, 11, 12, 13, 14, 15, 16, 17, 18, 19, 20, 21, 22] hP hD hK hN rfl rfl rfl rfl) rfl rfl hl.1 rfl (lv_room (Nat.le_of_ble_eq_true rfl)) dX5_isClosed_94 ⟨Nat.le_of_ble_eq_true rfl, Nat.le_of_ble_eq_true rfl⟩) hP hD hS hA rfl rfl rfl (by decide) rfl rfl (fun H locs hP hD hS => ?_)
    by_cases hi : x3 < 0 ∨ 130 ≤ (x3).toNatClampNeg
    · rw [if_pos hi] at h; exact no h
    rw [if_neg hi] at h
    refine va_iast (f := (q2.2 24)) hx hb hK hP hD hS 18 0 rfl rfl (i := x3) (x := q2.1) hi dX5_isClosed_97 (fun H locs hP hD hS => ?_)
    obtain ⟨σ3, eσ3, h⟩ := bn h
    have hP : va_P D vwCl (wX5 a5 cI cZ σ3) H := by rw [eσ3]; exact hP
    have hD : va_D A (wX5 a5 cI cZ σ3) := by rw [eσ3]; exact hD
    refine lv_iinc (v := (x3 + 1)) (lv' := [(3, .int (x3 + 1)), (0, .ref (a5 0)), (2, .int x2), (4, .int x4)]) hx hb dX5_isClosed_98 hl (k := 2) rfl rfl (by decide) rfl (fun ls hl => ?_)
    exact k_X5_isClosed_101 C0 N k5 hk5 σ3 x2 (x3 + 1) x4 _ _ _ hP hD hS (lv_sub hl [1, 2, 0, 3] rfl) h
  · rw [if_neg hc1] at h
    refine lv_goto (tgt := 101) hx hb dX5_isClosed_83 (by decide) ?_
    exact k_X5_isClosed_101 C0 N k5 hk5 σ x2 x3 x4 _ _ _ hP hD hS (lv_sub hl [0, 1, 2, 3] rfl) h
set_option maxHeartbeats 4000000 in
set_option maxRecDepth 100000 in
theorem k_X5_isClosed_34 {p : Program} {l : Launch} {e : Env} {s : State} {m : MethodId} {args : Array Value} {below : List Frame} {meth : Method} {c : Code} {D : va_G} {cI cZ : ClassId} {a5 : Nat → Nat} {A : Nat → Prop} {r : Int32} {u1 : St} (C0 : mB p s m args meth c D cI cZ A cX5_isClosed 5 (some .boolean) wsX5_isClosed RX5) (N : Nat) (k5 : St → Int32 → Int32 → Int32 → Option (Int32 × St)) (hk5 : KP_X5_isClosed_5 p l e s m args below meth c D cI cZ a5 A r u1 k5) : KP_X5_isClosed_34 p l e s m args below meth c D cI cZ a5 A r u1 (f_X5_isClosed_34 N k5) := by
  obtain ⟨hx, hb, hml, hr, hown, hts, hlocks, hA, hK, hN⟩ := id C0
  intro σ x2 x3 x4 H locs ls hP hD hS hl h
  unfold f_X5_isClosed_34 at h
  refine lv_aload_n hx hb dX5_isClosed_34 rfl (lv_at hl 0 rfl) ?_
  refine va_get (D := D) (ci := 5) (v := .ref (a5 21)) (C := RX5) (T := TX5) (N := 30) hx hb hts in_X5_isClosed_X5 hown hK hP 0 rfl rfl 20 (by decide) (hts (.fieldLink RX5 55 "TermLoomModel" "symbol" "[I") (by decide +kernel)) (fun _ h9 => h9) rfl dX5_isClosed_35 ?_
  refine lv_iload hx hb dX5_isClosed_38 (lv_at hl 3 rfl) ?_
  by_cases hi : x4 < 0 ∨ 34100 ≤ (x4).toNatClampNeg
  · rw [if_pos hi] at h; exact no h
  rw [if_neg hi] at h
  refine va_iald (f := (σ 20)) hx hb hK hP 14 0 rfl rfl (i := x4) hi dX5_isClosed_40 ?_
  refine lv_if_lt (tgt := 71) hx hb dX5_isClosed_41 (by decide) (fun hc1 => ?_) (fun hc1 => ?_)
  · rw [if_pos hc1] at h
    exact k_X5_isClosed_71 C0 N k5 hk5 σ x2 x3 x4 _ _ _ hP hD hS (lv_sub hl [0, 1, 2, 3] rfl) h
  · rw [if_neg hc1] at h
    refine lv_aload_n hx hb dX5_isClosed_44 rfl (lv_at hl 0 rfl) ?_
    refine va_get (D := D) (ci := 5) (v := .ref (a5 21)) (C := RX5) (T := TX5) (N := 30) hx hb hts in_X5_isClosed_X5 hown hK hP 0 rfl rfl 20 (by decide) (hts (.fieldLink RX5 55 "TermLoomModel" "symbol" "[I") (by decide +kernel)) (fun _ h9 => h9) rfl dX5_isClosed_45 ?_
    refine lv_iload hx hb dX5_isClosed_48 (lv_at hl 3 rfl) ?_
    by_cases hi : x4 < 0 ∨ 34100 ≤ (x4).toNatClampNeg
    · rw [if_pos hi] at h; exact no h
    rw [if_neg hi] at h
    refine va_iald (f := (σ 20)) hx hb hK hP 14 0 rfl rfl (i := x4) hi dX5_isClosed_50 ?_
    refine lv_iconst (v := 4) hx hb dX5_isClosed_51 rfl ?_
    refine lv_irem hx hb dX5_isClosed_52 (by decide) ?_
    refine lv_if_ne (tgt := 71) hx hb dX5_isClosed_53 (by decide) (fun hc2 => ?_) (fun hc2 => ?_)
    · rw [if_neg hc2] at h
      exact k_X5_isClosed_71 C0 N k5 hk5 σ x2 x3 x4 _ _ _ hP hD hS (lv_sub hl [0, 1, 2, 3] rfl) h
    · rw [if_pos hc2] at h
      refine lv_aload_n hx hb dX5_isClosed_56 rfl (lv_at hl 0 rfl) ?_
      refine va_get (D := D) (ci := 5) (v := .ref (a5 21)) (C := RX5) (T := TX5) (N := 30) hx hb hts in_X5_isClosed_X5 hown hK hP 0 rfl rfl 20 (by decide) (hts (.fieldLink RX5 55 "TermLoomModel" "symbol" "[I") (by decide +kernel)) (fun _ h9 => h9) rfl dX5_isClosed_57 ?_
      refine lv_iload hx hb dX5_isClosed_60 (lv_at hl 3 rfl) ?_
      by_cases hi : x4 < 0 ∨ 34100 ≤ (x4).toNatClampNeg
      · rw [if_pos hi] at h; exact no h
      rw [if_neg hi] at h
      refine va_iald (f := (σ 20)) hx hb hK hP 14 0 rfl rfl (i := x4) hi dX5_isClosed_62 ?_
      refine lv_iconst (v := 4) hx hb dX5_isClosed_63 rfl ?_
      refine lv_idiv hx hb dX5_isClosed_64 (by decide) ?_
      refine lv_iload_n hx hb dX5_isClosed_65 rfl (lv_at hl 2 rfl) ?_
      refine lv_icmp_lt (tgt := 71) hx hb dX5_isClosed_66 (by decide) (fun hc3 => ?_) (fun hc3 => ?_)
      · rw [if_pos hc3] at h
        exact k_X5_isClosed_71 C0 N k5 hk5 σ x2 x3 x4 _ _ _ hP hD hS (lv_sub hl [0, 1, 2, 3] rfl) h
      · rw [if_neg hc3] at h
        refine lv_iconst (v := 0) hx hb dX5_isClosed_69 rfl ?_
        obtain ⟨rfl, rfl⟩ := so h
        exact ret_z C0 (Or.inl rfl) hP hD hS dX5_isClosed_70
set_option maxHeartbeats 4000000 in
set_option maxRecDepth 100000 in
theorem k_X5_isClosed_11 {p : Program} {l : Launch} {e : Env} {s : State} {m : MethodId} {args : Array Value} {below : List Frame} {meth : Method} {c : Code} {D : va_G} {cI cZ : ClassId} {a5 : Nat → Nat} {A : Nat → Prop} {r : Int32} {u1 : St} (C0 : mB p s m args meth c D cI cZ A cX5_isClosed 5 (some .boolean) wsX5_isClosed RX5) (N : Nat) (k5 : St → Int32 → Int32 → Int32 → Option (Int32 × St)) (hk5 : KP_X5_isClosed_5 p l e s m args below meth c D cI cZ a5 A r u1 k5) : ∀ n : Nat, KP_X5_isClosed_11 p l e s m args below meth c D cI cZ a5 A r u1 (f_X5_isClosed_11 N k5 n) := by
  obtain ⟨hx, hb, hml, hr, hown, hts, hlocks, hA, hK, hN⟩ := id C0
  intro n
  induction n with
  | zero =>
    intro σ x2 x3 x4 H locs ls hP hD hS hl h
    exact no (show (none : Option (Int32 × St)) = _ from h)
  | succ n ih =>
    intro σ x2 x3 x4 H locs ls hP hD hS hl h
    rw [f_X5_isClosed_11] at h
    refine lv_iload_n hx hb dX5_isClosed_11 rfl (lv_at hl 2 rfl) ?_
    refine lv_if_le (tgt := 34) hx hb dX5_isClosed_12 (by decide) (fun hc1 => ?_) (fun hc1 => ?_)
    · rw [if_pos hc1] at h
      exact k_X5_isClosed_34 C0 N k5 hk5 σ x2 x3 x4 _ _ _ hP hD hS (lv_sub hl [0, 1, 2, 3] rfl) h
    · rw [if_neg hc1] at h
      refine lv_aload_n hx hb dX5_isClosed_15 rfl (lv_at hl 0 rfl) ?_
      refine va_get (D := D) (ci := 5) (v := .ref (a5 25)) (C := RX5) (T := TX5) (N := 30) hx hb hts in_X5_isClosed_X5 hown hK hP 0 rfl rfl 24 (by decide) (hts (.fieldLink RX5 67 "TermLoomModel" "ends" "[I") (by decide +kernel)) (fun _ h9 => h9) rfl dX5_isClosed_16 ?_
      refine lv_iload_n hx hb dX5_isClosed_19 rfl (lv_at hl 2 rfl) ?_
      refine lv_iconst (v := 1) hx hb dX5_isClosed_20 rfl ?_
      refine lv_isub hx hb dX5_isClosed_21 ?_
      by_cases hi : (x3 - 1) < 0 ∨ 130 ≤ ((x3 - 1)).toNatClampNeg
      · rw [if_pos hi] at h; exact no h
      rw [if_neg hi] at h
      refine va_iald (f := (σ 24)) hx hb hK hP 18 0 rfl rfl (i := (x3 - 1)) hi dX5_isClosed_22 ?_
      refine lv_iload hx hb dX5_isClosed_23 (lv_at hl 3 rfl) ?_
      refine lv_icmp_gt (tgt := 34) hx hb dX5_isClosed_25 (by decide) (fun hc2 => ?_) (fun hc2 => ?_)
      · rw [if_pos hc2] at h
        exact k_X5_isClosed_34 C0 N k5 hk5 σ x2 x3 x4 _ _ _ hP hD hS (lv_sub hl [0, 1, 2, 3] rfl) h
      · rw [if_neg hc2] at h
        refine lv_iinc (v := (x3 + (-1))) (lv' := [(3, .int (x3 + (-1))), (0, .ref (a5 0)), (2, .int x2), (4, .int x4)]) hx hb dX5_isClosed_28 hl (k := 2) rfl rfl (by decide) rfl (fun ls hl => ?_)
        refine lv_goto (tgt := 11) hx hb dX5_isClosed_31 (by decide) ?_
        exact ih σ x2 (x3 + (-1)) x4 _ _ _ hP hD hS (lv_sub hl [1, 2, 0, 3] rfl) h
set_option maxHeartbeats 4000000 in
set_option maxRecDepth 100000 in
theorem k_X5_isClosed_5 {p : Program} {l : Launch} {e : Env} {s : State} {m : MethodId} {args : Array Value} {below : List Frame} {meth : Method} {c : Code} {D : va_G} {cI cZ : ClassId} {a5 : Nat → Nat} {A : Nat → Prop} {r : Int32} {u1 : St} (C0 : mB p s m args meth c D cI cZ A cX5_isClosed 5 (some .boolean) wsX5_isClosed RX5) (N : Nat) : ∀ n : Nat, KP_X5_isClosed_5 p l e s m args below meth c D cI cZ a5 A r u1 (f_X5_isClosed_5 N n) := by
  obtain ⟨hx, hb, hml, hr, hown, hts, hlocks, hA, hK, hN⟩ := id C0
  intro n
  induction n with
  | zero =>
    intro σ x2 x3 x4 H locs ls hP hD hS hl h
    exact no (show (none : Option (Int32 × St)) = _ from h)
  | succ n ih =>
    intro σ x2 x3 x4 H locs ls hP hD hS hl h
    rw [f_X5_isClosed_5] at h
    refine lv_iload hx hb dX5_isClosed_5 (lv_at hl 3 rfl) ?_
    refine lv_iload_n hx hb dX5_isClosed_7 rfl (lv_at hl 1 rfl) ?_
    refine lv_icmp_ge (tgt := 107) hx hb dX5_isClosed_8 (by decide) (fun hc1 => ?_) (fun hc1 => ?_)
    · rw [if_pos hc1] at h
      refine lv_iconst (v := 1) hx hb dX5_isClosed_107 rfl ?_
      obtain ⟨rfl, rfl⟩ := so h
      exact ret_z C0 (Or.inr rfl) hP hD hS dX5_isClosed_108
    · rw [if_neg hc1] at h
      exact k_X5_isClosed_11 C0 N (f_X5_isClosed_5 N n) ih N σ x2 x3 x4 _ _ _ hP hD hS (lv_sub hl [0, 1, 2, 3] rfl) h
set_option maxHeartbeats 4000000 in
set_option maxRecDepth 100000 in
theorem c_X5_isClosed (l : Launch) (D : va_G) (cI cZ : ClassId) (a5 : Nat → Nat) (N : Nat) (σ : St) (x1 x2 : Int32) : MI l yX5_isClosed wsX5_isClosed ({ frames := 1, cells := 0, slots := 0, locals := 23 } : Room) D cI cZ (wX5 a5 cI cZ) [.ref (a5 0), .int x1, .int x2] σ (f_X5_isClosed N σ x1 x2) := by
  refine MI.of (cc := cX5_isClosed) (maxL := 5) (ret := (some .boolean)) (own := RX5) (by decide) rfl rfl (Nat.le_of_ble_eq_true rfl) ?_
  intro r u1 h p e s m args below meth c A C0 H locs ls hP hD hS hl
  obtain ⟨hx, hb, hml, hr, hown, hts, hlocks, hA, hK, hN⟩ := id C0
  have hl : lv_has ls 5 [(0, .ref (a5 0)), (1, .int x1), (2, .int x2)] := hl
  unfold f_X5_isClosed at h
  refine lv_iconst (v := 0) hx hb dX5_isClosed_0 rfl ?_
  refine lv_istore_n (lv' := [(3, .int 0), (0, .ref (a5 0)), (1, .int x1), (2, .int x2)]) hx hb dX5_isClosed_1 rfl hl (by decide) rfl (fun ls hl => ?_)
  refine lv_iload_n hx hb dX5_isClosed_2 rfl (lv_at hl 2 rfl) ?_
  refine lv_istore (lv' := [(4, .int x1), (3, .int 0), (0, .ref (a5 0)), (1, .int x1), (2, .int x2)]) hx hb dX5_isClosed_3 hl (by decide) rfl (fun ls hl => ?_)
  exact k_X5_isClosed_5 C0 N N σ x2 0 x1 _ _ _ hP hD hS (lv_sub hl [2, 4, 1, 0] rfl) h

theorem in_X5_takesPart_X5 : ∀ w ∈ u_ws RX5 TX5 30, w ∈ wsX5_takesPart := by decide +kernel
def f_X5_takesPart_28 (N : Nat) (σ : St) : Option (Int32 × St) := some (0, σ)
def f_X5_takesPart_104 (N : Nat) (σ : St) (s0 : Int32) : Option (Int32 × St) := if s0 = 0 ∨ s0 = 1 then some (s0, σ) else none
def f_X5_takesPart_103 (N : Nat) (σ : St) : Option (Int32 × St) := f_X5_takesPart_104 N σ 0
def f_X5_takesPart_33 (N : Nat) : Nat → St → Int32 → Int32 → Int32 → Int32 → Option (Int32 × St)
  | 0, _, _, _, _, _ => none
  | n + 1, σ, x1, x2, x3, x4 => if (σ 26 0) ≤ x4 then if (σ 26 0) < 0 ∨ 4000 ≤ ((σ 26 0)).toNatClampNeg then none else bnd (up2 σ 27 ((σ 26 0)).toNatClampNeg x1) (fun σ2 => if (σ2 26 0) < 0 ∨ 4000 ≤ ((σ2 26 0)).toNatClampNeg then none else bnd (up2 σ2 28 ((σ2 26 0)).toNatClampNeg x2) (fun σ3 => if (σ3 26 0) < 0 ∨ 4000 ≤ ((σ3 26 0)).toNatClampNeg then none else bnd (up2 σ3 29 ((σ3 26 0)).toNatClampNeg (x3 - x2)) (fun σ4 => bnd (up2 σ4 26 0 ((σ4 26 0) + 1)) (fun σ5 => some (1, σ5))))) else if x4 < 0 ∨ 4000 ≤ (x4).toNatClampNeg then none else if x1 < 0 ∨ 34100 ≤ (x1).toNatClampNeg then none else if x1 < 0 ∨ 34100 ≤ (x1).toNatClampNeg then none else (f_X5_isVariable N σ (σ 27 (x4).toNatClampNeg) (σ 20 (x1).toNatClampNeg) (σ 21 (x1).toNatClampNeg)).bind (fun q6 => if q6.1 = 0 then f_X5_takesPart_33 N n q6.2 x1 x2 x3 (x4 + 1) else if x4 < 0 ∨ 4000 ≤ (x4).toNatClampNeg then none else if (q6.2 29 (x4).toNatClampNeg) = (x3 - x2) then if x4 < 0 ∨ 4000 ≤ (x4).toNatClampNeg then none else (f_X5_areAlike N q6.2 (q6.2 28 (x4).toNatClampNeg) x2 (x3 - x2)).bind (fun q9 => if q9.1 = 0 then f_X5_takesPart_103 N q9.2 else f_X5_takesPart_104 N q9.2 1) else f_X5_takesPart_103 N q6.2)
def f_X5_takesPart (N : Nat) (σ : St) (x1 x2 x3 : Int32) : Option (Int32 × St) := if x1 < 0 ∨ 34100 ≤ (x1).toNatClampNeg then none else if x2 < 0 ∨ 34100 ≤ (x2).toNatClampNeg then none else (f_X5_fits N σ (σ 21 (x1).toNatClampNeg) (σ 21 (x2).toNatClampNeg)).bind (fun q1 => if q1.1 = 0 then f_X5_takesPart_28 N q1.2 else (f_X5_isClosed N q1.2 x2 x3).bind (fun q3 => if q3.1 = 0 then f_X5_takesPart_28 N q3.2 else f_X5_takesPart_33 N N q3.2 x1 x2 x3 0))
abbrev KP_X5_takesPart_28 (p : Program) (l : Launch) (e : Env) (s : State) (m : MethodId) (args : Array Value) (below : List Frame) (meth : Method) (c : Code) (D : va_G) (cI cZ : ClassId) (a5 : Nat → Nat) (A : Nat → Prop) (r : Int32) (u1 : St) (K : St → Option (Int32 × St)) : Prop := ∀ (σ : St) (H : Heap) (locs : List Loc) (ls : Array Slot), va_P D vwCl (wX5 a5 cI cZ σ) H → va_D A (wX5 a5 cI cZ σ) → va_S A s.heap H locs → lv_has ls 5 [] → K σ = some (r, u1) → W p l e ({ frames := 2, cells := 0, slots := 0, locals := 47 } : Room) s m args below meth c H locs 0 0 (QI below args s D cI cZ (wX5 a5 cI cZ) A r u1) (F0 m 28 ls [])
abbrev KP_X5_takesPart_104 (p : Program) (l : Launch) (e : Env) (s : State) (m : MethodId) (args : Array Value) (below : List Frame) (meth : Method) (c : Code) (D : va_G) (cI cZ : ClassId) (a5 : Nat → Nat) (A : Nat → Prop) (r : Int32) (u1 : St) (K : St → Int32 → Option (Int32 × St)) : Prop := ∀ (σ : St) (s0 : Int32) (H : Heap) (locs : List Loc) (ls : Array Slot), va_P D vwCl (wX5 a5 cI cZ σ) H → va_D A (wX5 a5 cI cZ σ) → va_S A s.heap H locs → lv_has ls 5 [] → K σ s0 = some (r, u1) → W p l e ({ frames := 2, cells := 0, slots := 0, locals := 47 } : Room) s m args below meth c H locs 0 0 (QI below args s D cI cZ (wX5 a5 cI cZ) A r u1) (F0 m 104 ls [.int s0])
abbrev KP_X5_takesPart_103 (p : Program) (l : Launch) (e : Env) (s : State) (m : MethodId) (args : Array Value) (below : List Frame) (meth : Method) (c : Code) (D : va_G) (cI cZ : ClassId) (a5 : Nat → Nat) (A : Nat → Prop) (r : Int32) (u1 : St) (K : St → Option (Int32 × St)) : Prop := ∀ (σ : St) (H : Heap) (locs : List Loc) (ls : Array Slot), va_P D vwCl (wX5 a5 cI cZ σ) H → va_D A (wX5 a5 cI cZ σ) → va_S A s.heap H locs → lv_has ls 5 [] → K σ = some (r, u1) → W p l e ({ frames := 2, cells := 0, slots := 0, locals := 47 } : Room) s m args below meth c H locs 0 0 (QI below args s D cI cZ (wX5 a5 cI cZ) A r u1) (F0 m 103 ls [])
abbrev KP_X5_takesPart_33 (p : Program) (l : Launch) (e : Env) (s : State) (m : MethodId) (args : Array Value) (below : List Frame) (meth : Method) (c : Code) (D : va_G) (cI cZ : ClassId) (a5 : Nat → Nat) (A : Nat → Prop) (r : Int32) (u1 : St) (K : St → Int32 → Int32 → Int32 → Int32 → Option (Int32 × St)) : Prop := ∀ (σ : St) (x1 x2 x3 x4 : Int32) (H : Heap) (locs : List Loc) (ls : Array Slot), va_P D vwCl (wX5 a5 cI cZ σ) H → va_D A (wX5 a5 cI cZ σ) → va_S A s.heap H locs → lv_has ls 5 [(0, .ref (a5 0)), (1, .int x1), (2, .int x2), (3, .int x3), (4, .int x4)] → K σ x1 x2 x3 x4 = some (r, u1) → W p l e ({ frames := 2, cells := 0, slots := 0, locals := 47 } : Room) s m args below meth c H locs 0 0 (QI below args s D cI cZ (wX5 a5 cI cZ) A r u1) (F0 m 33 ls [])
set_option maxHeartbeats 4000000 in
set_option maxRecDepth 100000 in
theorem k_X5_takesPart_28 {p : Program} {l : Launch} {e : Env} {s : State} {m : MethodId} {args : Array Value} {below : List Frame} {meth : Method} {c : Code} {D : va_G} {cI cZ : ClassId} {a5 : Nat → Nat} {A : Nat → Prop} {r : Int32} {u1 : St} (C0 : mB p s m args meth c D cI cZ A cX5_takesPart 5 (some .boolean) wsX5_takesPart RX5) (N : Nat) : KP_X5_takesPart_28 p l e s m args below meth c D cI cZ a5 A r u1 (f_X5_takesPart_28 N) := by
  obtain ⟨hx, hb, hml, hr, hown, hts, hlocks, hA, hK, hN⟩ := id C0
  intro σ H locs ls hP hD hS hl h
  unfold f_X5_takesPart_28 at h
  refine lv_iconst (v := 0) hx hb dX5_takesPart_28 rfl ?_
  obtain ⟨rfl, rfl⟩ := so h
  exact ret_z C0 (Or.inl rfl) hP hD hS dX5_takesPart_29
set_option maxHeartbeats 4000000 in
set_option maxRecDepth 100000 in
theorem k_X5_takesPart_104 {p : Program} {l : Launch} {e : Env} {s : State} {m : MethodId} {args : Array Value} {below : List Frame} {meth : Method} {c : Code} {D : va_G} {cI cZ : ClassId} {a5 : Nat → Nat} {A : Nat → Prop} {r : Int32} {u1 : St} (C0 : mB p s m args meth c D cI cZ A cX5_takesPart 5 (some .boolean) wsX5_takesPart RX5) (N : Nat) : KP_X5_takesPart_104 p l e s m args below meth c D cI cZ a5 A r u1 (f_X5_takesPart_104 N) := by
  obtain ⟨hx, hb, hml, hr, hown, hts, hlocks, hA, hK, hN⟩ := id C0
  intro σ s0 H locs ls hP hD hS hl h
  unfold f_X5_takesPart_104 at h
  by_cases hz : s0 = 0 ∨ s0 = 1
  · rw [if_pos hz] at h
    obtain ⟨rfl, rfl⟩ := so h
    exact ret_z C0 hz hP hD hS dX5_takesPart_104
  · rw [if_neg hz] at h; exact no h
set_option maxHeartbeats 4000000 in
set_option maxRecDepth 100000 in
theorem k_X5_takesPart_103 {p : Program} {l : Launch} {e : Env} {s : State} {m : MethodId} {args : Array Value} {below : List Frame} {meth : Method} {c : Code} {D : va_G} {cI cZ : ClassId} {a5 : Nat → Nat} {A : Nat → Prop} {r : Int32} {u1 : St} (C0 : mB p s m args meth c D cI cZ A cX5_takesPart 5 (some .boolean) wsX5_takesPart RX5) (N : Nat) : KP_X5_takesPart_103 p l e s m args below meth c D cI cZ a5 A r u1 (f_X5_takesPart_103 N) := by
  obtain ⟨hx, hb, hml, hr, hown, hts, hlocks, hA, hK, hN⟩ := id C0
  intro σ H locs ls hP hD hS hl h
  unfold f_X5_takesPart_103 at h
  refine lv_iconst (v := 0) hx hb dX5_takesPart_103 rfl ?_
  exact k_X5_takesPart_104 C0 N σ 0 _ _ _ hP hD hS (lv_sub hl [] rfl) h
set_option maxHeartbeats 4000000 in
set_option maxRecDepth 100000 in
theorem k_X5_takesPart_33 {p : Program} {l : Launch} {e : Env} {s : State} {m : MethodId} {args : Array Value} {below : List Frame} {meth : Method} {c : Code} {D : va_G} {cI cZ : ClassId} {a5 : Nat → Nat} {A : Nat → Prop} {r : Int32} {u1 : St} (C0 : mB p s m args meth c D cI cZ A cX5_takesPart 5 (some .boolean) wsX5_takesPart RX5) (N : Nat) : ∀ n : Nat, KP_X5_takesPart_33 p l e s m args below meth c D cI cZ a5 A r u1 (f_X5_takesPart_33 N n) := by
  obtain ⟨hx, hb, hml, hr, hown, hts, hlocks, hA, hK, hN⟩ := id C0
  intro n
  induction n with
  | zero =>
    intro σ x1 x2 x3 x4 H locs ls hP hD hS hl h
    exact no (show (none : Option (Int32 × St)) = _ from h)
  | succ n ih =>
    intro σ x1 x2 x3 x4 H locs ls hP hD hS hl h
    rw [f_X5_takesPart_33] at h
    refine lv_iload hx hb dX5_takesPart_33 (lv_at hl 4 rfl) ?_
    refine lv_aload_n hx hb dX5_takesPart_35 rfl (lv_at hl 0 rfl) ?_
    refine va_get (D := D) (ci := 5) (v := .int (σ 26 0)) (C := RX5) (T := TX5) (N := 30) hx hb hts in_X5_takesPart_X5 hown hK hP 0 rfl rfl 26 (by decide) (hts (.fieldLink RX5 73 "TermLoomModel" "found" "I") (by decide +kernel)) (fun _ h9 => h9) rfl dX5_takesPart_36 ?_
    refine lv_icmp_ge (tgt := 111) hx hb dX5_takesPart_39 (by decide) (fun hc1 => ?_) (fun hc1 => ?_)
    · rw [if_pos hc1] at h
      refine lv_aload_n hx hb dX5_takesPart_111 rfl (lv_at hl 0 rfl) ?_
      refine va_get (D := D) (ci := 5) (v := .ref (a5 28)) (C := RX5) (T := TX5) (N := 30) hx hb hts in_X5_takesPart_X5 hown hK hP 0 rfl rfl 27 (by decide) (hts (.fieldLink RX5 76 "TermLoomModel" "variableAt" "[I") (by decide +kernel)) (fun _ h9 => h9) rfl dX5_takesPart_112 ?_
      refine lv_aload_n hx hb dX5_takesPart_115 rfl (lv_at hl 0 rfl) ?_
      refine va_get (D := D) (ci := 5) (v := .int (σ 26 0)) (C := RX5) (T := TX5) (N := 30) hx hb hts in_X5_takesPart_X5 hown hK hP 0 rfl rfl 26 (by decide) (hts (.fieldLink RX5 73 "TermLoomModel" "found" "I") (by decide +kernel)) (fun _ h9 => h9) rfl dX5_takesPart_116 ?_
      refine lv_iload_n hx hb dX5_takesPart_119 rfl (lv_at hl 1 rfl) ?_
      by_cases hi : (σ 26 0) < 0 ∨ 4000 ≤ ((σ 26 0)).toNatClampNeg
      · rw [if_pos hi] at h; exact no h
      rw [if_neg hi] at h
      refine va_iast (f := (σ 27)) hx hb hK hP hD hS 20 0 rfl rfl (i := (σ 26 0)) (x := x1) hi dX5_takesPart_120 (fun H locs hP hD hS => ?_)
      obtain ⟨σ2, eσ2, h⟩ := bn h
      have hP : va_P D vwCl (wX5 a5 cI cZ σ2) H := by rw [eσ2]; exact hP
      have hD : va_D A (wX5 a5 cI cZ σ2) := by rw [eσ2]; exact hD
      refine lv_aload_n hx hb dX5_takesPart_121 rfl (lv_at hl 0 rfl) ?_
      refine va_get (D := D) (ci := 5) (v := .ref (a5 29)) (C := RX5) (T := TX5) (N := 30) hx hb hts in_X5_takesPart_X5 hown hK hP 0 rfl rfl 28 (by decide) (hts (.fieldLink RX5 79 "TermLoomModel" "partAt" "[I") (by decide +kernel)) (fun _ h9 => h9) rfl dX5_takesPart_122 ?_
      refine lv_aload_n hx hb dX5_takesPart_125 rfl (lv_at hl 0 rfl) ?_
      refine va_get (D := D) (ci := 5) (v := .int (σ2 26 0)) (C := RX5) (T := TX5) (N := 30) hx hb hts in_X5_takesPart_X5 hown hK hP 0 rfl rfl 26 (by decide) (hts (.fieldLink RX5 73 "TermLoomModel" "found" "I") (by decide +kernel)) (fun _ h9 => h9) rfl dX5_takesPart_126 ?_
      refine lv_iload_n hx hb dX5_takesPart_129 rfl (lv_at hl 2 rfl) ?_
      by_cases hi : (σ2 26 0) < 0 ∨ 4000 ≤ ((σ2 26 0)).toNatClampNeg
      · rw [if_pos hi] at h; exact no h
      rw [if_neg hi] at h
      refine va_iast (f := (σ2 28)) hx hb hK hP hD hS 21 0 rfl rfl (i := (σ2 26 0)) (x := x2) hi dX5_takesPart_130 (fun H locs hP hD hS => ?_)
      obtain ⟨σ3, eσ3, h⟩ := bn h
      have hP : va_P D vwCl (wX5 a5 cI cZ σ3) H := by rw [eσ3]; exact hP
      have hD : va_D A (wX5 a5 cI cZ σ3) := by rw [eσ3]; exact hD
      refine lv_aload_n hx hb dX5_takesPart_131 rfl (lv_at hl 0 rfl) ?_
      refine va_get (D := D) (ci := 5) (v := .ref (a5 30)) (C := RX5) (T := TX5) (N := 30) hx hb hts in_X5_takesPart_X5 hown hK hP 0 rfl rfl 29 (by decide) (hts (.fieldLink RX5 82 "TermLoomModel" "partLength" "[I") (by decide +kernel)) (fun _ h9 => h9) rfl dX5_takesPart_132 ?_
      refine lv_aload_n hx hb dX5_takesPart_135 rfl (lv_at hl 0 rfl) ?_
      refine va_get (D := D) (ci := 5) (v := .int (σ3 26 0)) (C := RX5) (T := TX5) (N := 30) hx hb hts in_X5_takesPart_X5 hown hK hP 0 rfl rfl 26 (by decide) (hts (.fieldLink RX5 73 "TermLoomModel" "found" "I") (by decide +kernel)) (fun _ h9 => h9) rfl dX5_takesPart_136 ?_
      refine lv_iload_n hx hb dX5_takesPart_139 rfl (lv_at hl 3 rfl) ?_
      refine lv_iload_n hx hb dX5_takesPart_140 rfl (lv_at hl 2 rfl) ?_
      refine lv_isub hx hb dX5_takesPart_141 ?_
      by_cases hi : (σ3 26 0) < 0 ∨ 4000 ≤ ((σ3 26 0)).toNatClampNeg
      · rw [if_pos hi] at h; exact no h
      rw [if_neg hi] at h
      refine va_iast (f := (σ3 29)) hx hb hK hP hD hS 22 0 rfl rfl (i := (σ3 26 0)) (x := (x3 - x2)) hi dX5_takesPart_142 (fun H locs hP hD hS => ?_)
      obtain ⟨σ4, eσ4, h⟩ := bn h
      have hP : va_P D vwCl (wX5 a5 cI cZ σ4) H := by rw [eσ4]; exact hP
      have hD : va_D A (wX5 a5 cI cZ σ4) := by rw [eσ4]; exact hD
      refine lv_aload_n hx hb dX5_takesPart_143 rfl (lv_at hl 0 rfl) ?_
      refine lv_dup hx hb dX5_takesPart_144 rfl ?_
      refine va_get (D := D) (ci := 5) (v := .int (σ4 26 0)) (C := RX5) (T := TX5) (N := 30) hx hb hts in_X5_takesPart_X5 hown hK hP 0 rfl rfl 26 (by decide) (hts (.fieldLink RX5 73 "TermLoomModel" "found" "I") (by decide +kernel)) (fun _ h9 => h9) rfl dX5_takesPart_145 ?_
      refine lv_iconst (v := 1) hx hb dX5_takesPart_148 rfl ?_
      refine lv_iadd hx hb dX5_takesPart_149 ?_
      refine va_put (D := D) (ci := 5) (v := .int ((σ4 26 0) + 1)) (ty := .int) (C := RX5) (T := TX5) (N := 30) hx hb hts in_X5_takesPart_X5 tyX5 tyX5_ok nmX5 hown hK hP hD hS 0 rfl rfl 26 (by decide) (hts (.fieldLink RX5 73 "TermLoomModel" "found" "I") (by decide +kernel)) (fun _ h9 => h9) rfl (by decide +kernel) rfl rfl (Nat.le_of_ble_eq_true rfl) dX5_takesPart_150 (fun H locs hP hD hS => ?_)
      obtain ⟨σ5, eσ5, h⟩ := bn h
      have hP : va_P D vwCl (wX5 a5 cI cZ σ5) H := by rw [eσ5]; exact hP
      have hD : va_D A (wX5 a5 cI cZ σ5) := by rw [eσ5]; exact hD
      refine lv_iconst (v := 1) hx hb dX5_takesPart_153 rfl ?_
      obtain ⟨rfl, rfl⟩ := so h
      exact ret_z C0 (Or.inr rfl) hP hD hS dX5_takesPart_154
    · rw [if_neg hc1] at h
      refine lv_aload_n hx hb dX5_takesPart_42 rfl (lv_at hl 0 rfl) ?_
      refine lv_aload_n hx hb dX5_takesPart_43 rfl (lv_at hl 0 rfl) ?_
      refine va_get (D := D) (ci := 5) (v := .ref (a5 28)) (C := RX5) (T := TX5) (N := 30) hx hb hts in_X5_takesPart_X5 hown hK hP 0 rfl rfl 27 (by decide) (hts (.fieldLink RX5 76 "TermLoomModel" "variableAt" "[I") (by decide +kernel)) (fun _ h9 => h9) rfl dX5_takesPart_44 ?_
      refine lv_iload hx hb dX5_takesPart_47 (lv_at hl 4 rfl) ?_
      by_cases hi : x4 < 0 ∨ 4000 ≤ (x4).toNatClampNeg
      · rw [if_pos hi] at h; exact no h
      rw [if_neg hi] at h
      refine va_iald (f := (σ 27)) hx hb hK hP 20 0 rfl rfl (i := x4) hi dX5_takesPart_49 ?_
      refine lv_aload_n hx hb dX5_takesPart_50 rfl (lv_at hl 0 rfl) ?_
      refine va_get (D := D) (ci := 5) (v := .ref (a5 21)) (C := RX5) (T := TX5) (N := 30) hx hb hts in_X5_takesPart_X5 hown hK hP 0 rfl rfl 20 (by decide) (hts (.fieldLink RX5 55 "TermLoomModel" "symbol" "[I") (by decide +kernel)) (fun _ h9 => h9) rfl dX5_takesPart_51 ?_
      refine lv_iload_n hx hb dX5_takesPart_54 rfl (lv_at hl 1 rfl) ?_
      by_cases hi : x1 < 0 ∨ 34100 ≤ (x1).toNatClampNeg
      · rw [if_pos hi] at h; exact no h
      rw [if_neg hi] at h
      refine va_iald (f := (σ 20)) hx hb hK hP 14 0 rfl rfl (i := x1) hi dX5_takesPart_55 ?_
      refine lv_aload_n hx hb dX5_takesPart_56 rfl (lv_at hl 0 rfl) ?_
      refine va_get (D := D) (ci := 5) (v := .ref (a5 22)) (C := RX5) (T := TX5) (N := 30) hx hb hts in_X5_takesPart_X5 hown hK hP 0 rfl rfl 21 (by decide) (hts (.fieldLink RX5 58 "TermLoomModel" "type" "[I") (by decide +kernel)) (fun _ h9 => h9) rfl dX5_takesPart_57 ?_
      refine lv_iload_n hx hb dX5_takesPart_60 rfl (lv_at hl 1 rfl) ?_
      by_cases hi : x1 < 0 ∨ 34100 ≤ (x1).toNatClampNeg
      · rw [if_pos hi] at h; exact no h
      rw [if_neg hi] at h
      refine va_iald (f := (σ 21)) hx hb hK hP 15 0 rfl rfl (i := x1) hi dX5_takesPart_61 ?_
      obtain ⟨q6, hq6, h⟩ := ob h
      refine mc_i (ws' := wX5 a5 cI cZ q6.2) (wr := ([] : va_W)) [0, 1, 2, 3, 4, 5, 6, 7, 8, 9, 10, 11, 12, 13, 14, 15, 16, 17, 18, 19, 20, 21, 22] [] [0, 1, 2, 3, 4, 5, 6, 7, 8, 9, 10, 11, 12, 13, 14, 15, 16, 17, 18, 19, 20, 21, 22] (va_runV (As := [.int (σ 27 (x4).toNatClampNeg), .int (σ 20 (x1).toNatClampNeg), .int (σ 21 (x1).toNatClampNeg)]) (rest := []) ⟨hx, hb, hml, hown, hts⟩ (c_X5_isVariable l D cI cZ a5 N σ (σ 27 (x4).toNatClampNeg) (σ 20 (x1).toNatClampNeg) (σ 21 (x1).toNatClampNeg) q6.1 q6.2 hq6 H.size) (cwV 3 hts gX5_takesPart_X5_isVariable rfl rfl rfl (by decide +kernel) ⟨Nat.le_of_ble_eq_true rfl, Nat.le_of_ble_eq_true rfl⟩) (pV [0, 1, 2, 3, 4, 5, 6, 7, 8, 9, 10, 11, 12, 13, 14, 15, 16, 17, 18, 19, 20, 21, 22] hP hD hK hN rfl rfl rfl rfl) rfl rfl hl.1 rfl (lv_room (Nat.le_of_ble_eq_true rfl)) dX5_takesPart_62 ⟨Nat.le_of_ble_eq_true rfl, Nat.le_of_ble_eq_true rfl⟩) hP hD hS hA rfl rfl rfl (by decide) rfl rfl (fun H locs hP hD hS => ?_)
      refine lv_if_eq (tgt := 105) hx hb dX5_takesPart_65 (by decide) (fun hc7 => ?_) (fun hc7 => ?_)
      · rw [if_pos hc7] at h
        refine lv_iinc (v := (x4 + 1)) (lv' := [(4, .int (x4 + 1)), (0, .ref (a5 0)), (1, .int x1), (2, .int x2), (3, .int x3)]) hx hb dX5_takesPart_105 hl (k := 4) rfl rfl (by decide) rfl (fun ls hl => ?_)
        refine lv_goto (tgt := 33) hx hb dX5_takesPart_108 (by decide) ?_
        exact ih q6.2 x1 x2 x3 (x4 + 1) _ _ _ hP hD hS (lv_sub hl [1, 2, 3, 4, 0] rfl) h
      · rw [if_neg hc7] at h
        refine lv_aload_n hx hb dX5_takesPart_68 rfl (lv_at hl 0 rfl) ?_
        refine va_get (D := D) (ci := 5) (v := .ref (a5 30)) (C := RX5) (T := TX5) (N := 30) hx hb hts in_X5_takesPart_X5 hown hK hP 0 rfl rfl 29 (by decide) (hts (.fieldLink RX5 82 "TermLoomModel" "partLength" "[I") (by decide +kernel)) (fun _ h9 => h9) rfl dX5_takesPart_69 ?_
        refine lv_iload hx hb dX5_takesPart_72 (lv_at hl 4 rfl) ?_
        by_cases hi : x4 < 0 ∨ 4000 ≤ (x4).toNatClampNeg
        · rw [if_pos hi] at h; exact no h
        rw [if_neg hi] at h
        refine va_iald (f := (q6.2 29)) hx hb hK hP 22 0 rfl rfl (i := x4) hi dX5_takesPart_74 ?_
        refine lv_iload_n hx hb dX5_takesPart_75 rfl (lv_at hl 3 rfl) ?_
        refine lv_iload_n hx hb dX5_takesPart_76 rfl (lv_at hl 2 rfl) ?_
        refine lv_isub hx hb dX5_takesPart_77 ?_
        refine lv_icmp_ne (tgt := 103) hx hb dX5_takesPart_78 (by decide) (fun hc8 => ?_) (fun hc8 => ?_)
        · rw [if_neg hc8] at h
          exact k_X5_takesPart_103 C0 N q6.2 _ _ _ hP hD hS (lv_sub hl [] rfl) h
        · rw [if_pos hc8] at h
          refine lv_aload_n hx hb dX5_takesPart_81 rfl (lv_at hl 0 rfl) ?_
          refine lv_aload_n hx hb dX5_takesPart_82 rfl (lv_at hl 0 rfl) ?_
          refine va_get (D := D) (ci := 5) (v := .ref (a5 29)) (C := RX5) (T := TX5) (N := 30) hx hb hts in_X5_takesPart_X5 hown hK hP 0 rfl rfl 28 (by decide) (hts (.fieldLink RX5 79 "TermLoomModel" "partAt" "[I") (by decide +kernel)) (fun _ h9 => h9) rfl dX5_takesPart_83 ?_
          refine lv_iload hx hb dX5_takesPart_86 (lv_at hl 4 rfl) ?_
          by_cases hi : x4 < 0 ∨ 4000 ≤ (x4).toNatClampNeg
          · rw [if_pos hi] at h; exact no h
          rw [if_neg hi] at h
          refine va_iald (f := (q6.2 28)) hx hb hK hP 21 0 rfl rfl (i := x4) hi dX5_takesPart_88 ?_
          refine lv_iload_n hx hb dX5_takesPart_89 rfl (lv_at hl 2 rfl) ?_
          refine lv_iload_n hx hb dX5_takesPart_90 rfl (lv_at hl 3 rfl) ?_
          refine lv_iload_n hx hb dX5_takesPart_91 rfl (lv_at hl 2 rfl) ?_
          refine lv_isub hx hb dX5_takesPart_92 ?_
          obtain ⟨q9, hq9, h⟩ := ob h
          refine mc_i (ws' := wX5 a5 cI cZ q9.2) (wr := ([] : va_W)) [0, 1, 2, 3, 4, 5, 6, 7, 8, 9, 10, 11, 12, 13, 14, 15, 16, 17, 18, 19, 20, 21, 22] [] [0, 1, 2, 3, 4, 5, 6, 7, 8, 9, 10, 11, 12, 13, 14, 15, 16, 17, 18, 19, 20, 21, 22] (va_runV (As := [.int (q6.2 28 (x4).toNatClampNeg), .int x2, .int (x3 - x2)]) (rest := []) ⟨hx, hb, hml, hown, hts⟩ (c_X5_areAlike l D cI cZ a5 N q6.2 (q6.2 28 (x4).toNatClampNeg) x2 (x3 - x2) q9.1 q9.2 hq9 H.size) (cwV 3 hts gX5_takesPart_X5_areAlike rfl rfl rfl (by decide +kernel) ⟨Nat.le_of_ble_eq_true rfl, Nat.le_of_ble_eq_true rfl⟩) (pV [0, 1, 2, 3, 4, 5, 6, 7, 8, 9, 10, 11, 12, 13, 14, 15, 16, 17, 18, 19, 20, 21, 22] hP hD hK hN rfl rfl rfl rfl) rfl rfl hl.1 rfl (lv_room (Nat.le_of_ble_eq_true rfl)) dX5_takesPart_93 ⟨Nat.le_of_ble_eq_true rfl, Nat.le_of_ble_eq_true rfl⟩) hP hD hS hA rfl rfl rfl (by decide) rfl rfl (fun H locs hP hD hS => ?_)
          refine lv_if_eq (tgt := 103) hx hb dX5_takesPart_96 (by decide) (fun hc10 => ?_) (fun hc10 => ?_)
          · rw [if_pos hc10] at h
            exact k_X5_takesPart_103 C0 N q9.2 _ _ _ hP hD hS (lv_sub hl [] rfl) h
          · rw [if_neg hc10] at h
            refine lv_iconst (v := 1) hx hb dX5_takesPart_99 rfl ?_
            refine lv_goto (tgt := 104) hx hb dX5_takesPart_100 (by decide) ?_
            exact k_X5_takesPart_104 C0 N q9.2 1 _ _ _ hP hD hS (lv_sub hl [] rfl) h
set_option maxHeartbeats 4000000 in
set_option maxRecDepth 100000 in
theorem c_X5_takesPart (l : Launch) (D : va_G) (cI cZ : ClassId) (a5 : Nat → Nat) (N : Nat) (σ : St) (x1 x2 x3 : Int32) : MI l yX5_takesPart wsX5_takesPart ({ frames := 2, cells := 0, slots := 0, locals := 47 } : Room) D cI cZ (wX5 a5 cI cZ) [.ref (a5 0), .int x1, .int x2, .int x3] σ (f_X5_takesPart N σ x1 x2 x3) := by
  refine MI.of (cc := cX5_takesPart) (maxL := 5) (ret := (some .boolean)) (own := RX5) (by decide) rfl rfl (Nat.le_of_ble_eq_true rfl) ?_
  intro r u1 h p e s m args below meth c A C0 H locs ls hP hD hS hl
  obtain ⟨hx, hb, hml, hr, hown, hts, hlocks, hA, hK, hN⟩ := id C0
  have hl : lv_has ls 5 [(0, .ref (a5 0)), (1, .int x1), (2, .int x2), (3, .int x3)] := hl
  unfold f_X5_takesPart at h
  refine lv_aload_n hx hb dX5_takesPart_0 rfl (lv_at hl 0 rfl) ?_
  refine lv_aload_n hx hb dX5_takesPart_1 rfl (lv_at hl 0 rfl) ?_
  refine va_get (D := D) (ci := 5) (v := .ref (a5 22)) (C := RX5) (T := TX5) (N := 30) hx hb hts in_X5_takesPart_X5 hown hK hP 0 rfl rfl 21 (by decide) (hts (.fieldLink RX5 58 "TermLoomModel" "type" "[I") (by decide +kernel)) (fun _ h9 => h9) rfl dX5_takesPart_2 ?_
  refine lv_iload_n hx hb dX5_takesPart_5 rfl (lv_at hl 1 rfl) ?_
  by_cases hi : x1 < 0 ∨ 34100 ≤ (x1).toNatClampNeg
  · rw [if_pos hi] at h; exact no h
  rw [if_neg hi] at h
  refine va_iald (f := (σ 21)) hx hb hK hP 15 0 rfl rfl (i := x1) hi dX5_takesPart_6 ?_
  refine lv_aload_n hx hb dX5_takesPart_7 rfl (lv_at hl 0 rfl) ?_
  refine va_get (D := D) (ci := 5) (v := .ref (a5 22)) (C := RX5) (T := TX5) (N := 30) hx hb hts in_X5_takesPart_X5 hown hK hP 0 rfl rfl 21 (by decide) (hts (.fieldLink RX5 58 "TermLoomModel" "type" "[I") (by decide +kernel)) (fun _ h9 => h9) rfl dX5_takesPart_8 ?_
  refine lv_iload_n hx hb dX5_takesPart_11 rfl (lv_at hl 2 rfl) ?_
  by_cases hi : x2 < 0 ∨ 34100 ≤ (x2).toNatClampNeg
  · rw [if_pos hi] at h; exact no h
  rw [if_neg hi] at h
  refine va_iald (f := (σ 21)) hx hb hK hP 15 0 rfl rfl (i := x2) hi dX5_takesPart_12 ?_
  obtain ⟨q1, hq1, h⟩ := ob h
  refine mc_i (ws' := wX5 a5 cI cZ q1.2) (wr := ([] : va_W)) [0, 1, 2, 3, 4, 5, 6, 7, 8, 9, 10, 11, 12, 13, 14, 15, 16, 17, 18, 19, 20, 21, 22] [] [0, 1, 2, 3, 4, 5, 6, 7, 8, 9, 10, 11, 12, 13, 14, 15, 16, 17, 18, 19, 20, 21, 22] (va_runV (As := [.int (σ 21 (x1).toNatClampNeg), .int (σ 21 (x2).toNatClampNeg)]) (rest := []) ⟨hx, hb, hml, hown, hts⟩ (c_X5_fits l D cI cZ a5 N σ (σ 21 (x1).toNatClampNeg) (σ 21 (x2).toNatClampNeg) q1.1 q1.2 hq1 H.size) (cwV 2 hts gX5_takesPart_X5_fits rfl rfl rfl (by decide +kernel) ⟨Nat.le_of_ble_eq_true rfl, Nat.le_of_ble_eq_true rfl⟩) (pV [0, 1, 2, 3, 4, 5, 6, 7, 8, 9, 10, 11, 12, 13, 14, 15, 16, 17, 18, 19, 20, 21, 22] hP hD hK hN rfl rfl rfl rfl) rfl rfl hl.1 rfl (lv_room (Nat.le_of_ble_eq_true rfl)) dX5_takesPart_13 ⟨Nat.le_of_ble_eq_true rfl, Nat.le_of_ble_eq_true rfl⟩) hP hD hS hA rfl rfl rfl (by decide) rfl rfl (fun H locs hP hD hS => ?_)
  refine lv_if_eq (tgt := 28) hx hb dX5_takesPart_16 (by decide) (fun hc2 => ?_) (fun hc2 => ?_)
  · rw [if_pos hc2] at h
    exact k_X5_takesPart_28 C0 N q1.2 _ _ _ hP hD hS (lv_sub hl [] rfl) h
  · rw [if_neg hc2] at h
    refine lv_aload_n hx hb dX5_takesPart_19 rfl (lv_at hl 0 rfl) ?_
    refine lv_iload_n hx hb dX5_takesPart_20 rfl (lv_at hl 2 rfl) ?_
    refine lv_iload_n hx hb dX5_takesPart_21 rfl (lv_at hl 3 rfl) ?_
    obtain ⟨q3, hq3, h⟩ := ob h
    refine mc_i (ws' := wX5 a5 cI cZ q3.2) (wr := ([] : va_W)) [0, 1, 2, 3, 4, 5, 6, 7, 8, 9, 10, 11, 12, 13, 14, 15, 16, 17, 18, 19, 20, 21, 22] [] [0, 1, 2, 3, 4, 5, 6, 7, 8, 9, 10, 11, 12, 13, 14, 15, 16, 17, 18, 19, 20, 21, 22] (va_runV (As := [.int x2, .int x3]) (rest := []) ⟨hx, hb, hml, hown, hts⟩ (c_X5_isClosed l D cI cZ a5 N q1.2 x2 x3 q3.1 q3.2 hq3 H.size) (cwV 2 hts gX5_takesPart_X5_isClosed rfl rfl rfl (by decide +kernel) ⟨Nat.le_of_ble_eq_true rfl, Nat.le_of_ble_eq_true rfl⟩) (pV [0, 1, 2, 3, 4, 5, 6, 7, 8, 9, 10, 11, 12, 13, 14, 15, 16, 17, 18, 19, 20, 21, 22] hP hD hK hN rfl rfl rfl rfl) rfl rfl hl.1 rfl (lv_room (Nat.le_of_ble_eq_true rfl)) dX5_takesPart_22 ⟨Nat.le_of_ble_eq_true rfl, Nat.le_of_ble_eq_true rfl⟩) hP hD hS hA rfl rfl rfl (by decide) rfl rfl (fun H locs hP hD hS => ?_)
    refine lv_if_ne (tgt := 30) hx hb dX5_takesPart_25 (by decide) (fun hc4 => ?_) (fun hc4 => ?_)
    · rw [if_neg hc4] at h
      refine lv_iconst (v := 0) hx hb dX5_takesPart_30 rfl ?_
      refine lv_istore (lv' := [(4, .int 0), (0, .ref (a5 0)), (1, .int x1), (2, .int x2), (3, .int x3)]) hx hb dX5_takesPart_31 hl (by decide) rfl (fun ls hl => ?_)
      exact k_X5_takesPart_33 C0 N N q3.2 x1 x2 x3 0 _ _ _ hP hD hS (lv_sub hl [1, 2, 3, 4, 0] rfl) h
    · rw [if_pos hc4] at h
      exact k_X5_takesPart_28 C0 N q3.2 _ _ _ hP hD hS (lv_sub hl [] rfl) h

theorem in_X5_isFit_X5 : ∀ w ∈ u_ws RX5 TX5 30, w ∈ wsX5_isFit := by decide +kernel
def f_X5_isFit_91 (N : Nat) (σ : St) (s0 : Int32) : Option (Int32 × St) := if s0 = 0 ∨ s0 = 1 then some (s0, σ) else none
def f_X5_isFit_86 (N : Nat) (σ : St) : Option (Int32 × St) := f_X5_isFit_91 N σ 1
def f_X5_isFit (N : Nat) (σ : St) (x1 x2 : Int32) : Option (Int32 × St) := if x1 < 0 ∨ 34100 ≤ (x1).toNatClampNeg then none else if x2 < 0 ∨ 34100 ≤ (x2).toNatClampNeg then none else if (σ 20 (x1).toNatClampNeg) = (σ 20 (x2).toNatClampNeg) then if x1 < 0 ∨ 34100 ≤ (x1).toNatClampNeg then none else if (σ 20 (x1).toNatClampNeg) = (-2) then if x1 < 0 ∨ 34100 ≤ (x1).toNatClampNeg then none else if (σ 21 (x1).toNatClampNeg) < 0 ∨ 16000 ≤ ((σ 21 (x1).toNatClampNeg)).toNatClampNeg then none else if x2 < 0 ∨ 34100 ≤ (x2).toNatClampNeg then none else if (σ 21 (x2).toNatClampNeg) < 0 ∨ 16000 ≤ ((σ 21 (x2).toNatClampNeg)).toNatClampNeg then none else (f_X5_fits N σ (σ 7 ((σ 21 (x1).toNatClampNeg)).toNatClampNeg) (σ 7 ((σ 21 (x2).toNatClampNeg)).toNatClampNeg)).bind (fun q6 => if q6.1 = 0 ∨ q6.1 = 1 then some (q6.1, q6.2) else none) else if x1 < 0 ∨ 34100 ≤ (x1).toNatClampNeg then none else if ((σ 20 (x1).toNatClampNeg) - (σ 20 (x1).toNatClampNeg) / 4 * 4) = 2 then if x1 < 0 ∨ 34100 ≤ (x1).toNatClampNeg then none else if x2 < 0 ∨ 34100 ≤ (x2).toNatClampNeg then none else (f_X5_fits N σ (σ 21 (x1).toNatClampNeg) (σ 21 (x2).toNatClampNeg)).bind (fun q4 => if q4.1 = 0 then f_X5_isFit_91 N q4.2 0 else f_X5_isFit_86 N q4.2) else f_X5_isFit_86 N σ else some (0, σ)
abbrev KP_X5_isFit_91 (p : Program) (l : Launch) (e : Env) (s : State) (m : MethodId) (args : Array Value) (below : List Frame) (meth : Method) (c : Code) (D : va_G) (cI cZ : ClassId) (a5 : Nat → Nat) (A : Nat → Prop) (r : Int32) (u1 : St) (K : St → Int32 → Option (Int32 × St)) : Prop := ∀ (σ : St) (s0 : Int32) (H : Heap) (locs : List Loc) (ls : Array Slot), va_P D vwCl (wX5 a5 cI cZ σ) H → va_D A (wX5 a5 cI cZ σ) → va_S A s.heap H locs → lv_has ls 3 [] → K σ s0 = some (r, u1) → W p l e ({ frames := 1, cells := 0, slots := 0, locals := 26 } : Room) s m args below meth c H locs 0 0 (QI below args s D cI cZ (wX5 a5 cI cZ) A r u1) (F0 m 91 ls [.int s0])
abbrev KP_X5_isFit_86 (p : Program) (l : Launch) (e : Env) (s : State) (m : MethodId) (args : Array Value) (below : List Frame) (meth : Method) (c : Code) (D : va_G) (cI cZ : ClassId) (a5 : Nat → Nat) (A : Nat → Prop) (r : Int32) (u1 : St) (K : St → Option (Int32 × St)) : Prop := ∀ (σ : St) (H : Heap) (locs : List Loc) (ls : Array Slot), va_P D vwCl (wX5 a5 cI cZ σ) H → va_D A (wX5 a5 cI cZ σ) → va_S A s.heap H locs → lv_has ls 3 [] → K σ = some (r, u1) → W p l e ({ frames := 1, cells := 0, slots := 0, locals := 26 } : Room) s m args below meth c H locs 0 0 (QI below args s D cI cZ (wX5 a5 cI cZ) A r u1) (F0 m 86 ls [])
set_option maxHeartbeats 4000000 in
set_option maxRecDepth 100000 in
theorem k_X5_isFit_91 {p : Program} {l : Launch} {e : Env} {s : State} {m : MethodId} {args : Array Value} {below : List Frame} {meth : Method} {c : Code} {D : va_G} {cI cZ : ClassId} {a5 : Nat → Nat} {A : Nat → Prop} {r : Int32} {u1 : St} (C0 : mB p s m args meth c D cI cZ A cX5_isFit 3 (some .boolean) wsX5_isFit RX5) (N : Nat) : KP_X5_isFit_91 p l e s m args below meth c D cI cZ a5 A r u1 (f_X5_isFit_91 N) := by
  obtain ⟨hx, hb, hml, hr, hown, hts, hlocks, hA, hK, hN⟩ := id C0
  intro σ s0 H locs ls hP hD hS hl h
  unfold f_X5_isFit_91 at h
  by_cases hz : s0 = 0 ∨ s0 = 1
  · rw [if_pos hz] at h
    obtain ⟨rfl, rfl⟩ := so h
    exact ret_z C0 hz hP hD hS dX5_isFit_91
  · rw [if_neg hz] at h; exact no h
set_option maxHeartbeats 4000000 in
set_option maxRecDepth 100000 in
theorem k_X5_isFit_86 {p : Program} {l : Launch} {e : Env} {s : State} {m : MethodId} {args : Array Value} {below : List Frame} {meth : Method} {c : Code} {D : va_G} {cI cZ : ClassId} {a5 : Nat → Nat} {A : Nat → Prop} {r : Int32} {u1 : St} (C0 : mB p s m args meth c D cI cZ A cX5_isFit 3 (some .boolean) wsX5_isFit RX5) (N : Nat) : KP_X5_isFit_86 p l e s m args below meth c D cI cZ a5 A r u1 (f_X5_isFit_86 N) := by
  obtain ⟨hx, hb, hml, hr, hown, hts, hlocks, hA, hK, hN⟩ := id C0
  intro σ H locs ls hP hD hS hl h
  unfold f_X5_isFit_86 at h
  refine lv_iconst (v := 1) hx hb dX5_isFit_86 rfl ?_
  refine lv_goto (tgt := 91) hx hb dX5_isFit_87 (by decide) ?_
  exact k_X5_isFit_91 C0 N σ 1 _ _ _ hP hD hS (lv_sub hl [] rfl) h
set_option maxHeartbeats 4000000 in
set_option maxRecDepth 100000 in
theorem c_X5_isFit (l : Launch) (D : va_G) (cI cZ : ClassId) (a5 : Nat → Nat) (N : Nat) (σ : St) (x1 x2 : Int32) : MI l yX5_isFit wsX5_isFit ({ frames := 1, cells := 0, slots := 0, locals := 26 } : Room) D cI cZ (wX5 a5 cI cZ) [.ref (a5 0), .int x1, .int x2] σ (f_X5_isFit N σ x1 x2) := by
  refine MI.of (cc := cX5_isFit) (maxL := 3) (ret := (some .boolean)) (own := RX5) (by decide) rfl rfl (Nat.le_of_ble_eq_true rfl) ?_
  intro r u1 h p e s m args below meth c A C0 H locs ls hP hD hS hl
  obtain ⟨hx, hb, hml, hr, hown, hts, hlocks, hA, hK, hN⟩ := id C0
  have hl : lv_has ls 3 [(0, .ref (a5 0)), (1, .int x1), (2, .int x2)] := hl
  unfold f_X5_isFit at h
  refine lv_aload_n hx hb dX5_isFit_0 rfl (lv_at hl 0 rfl) ?_
  refine va_get (D := D) (ci := 5) (v := .ref (a5 21)) (C := RX5) (T := TX5) (N := 30) hx hb hts in_X5_isFit_X5 hown hK hP 0 rfl rfl 20 (by decide) (hts (.fieldLink RX5 55 "TermLoomModel" "symbol" "[I") (by decide +kernel)) (fun _ h9 => h9) rfl dX5_isFit_1 ?_
  refine lv_iload_n hx hb dX5_isFit_4 rfl (lv_at hl 1 rfl) ?_
  by_cases hi : x1 < 0 ∨ 34100 ≤ (x1).toNatClampNeg
  · rw [if_pos hi] at h; exact no h
  rw [if_neg hi] at h
  refine va_iald (f := (σ 20)) hx hb hK hP 14 0 rfl rfl (i := x1) hi dX5_isFit_5 ?_
  refine lv_aload_n hx hb dX5_isFit_6 rfl (lv_at hl 0 rfl) ?_
  refine va_get (D := D) (ci := 5) (v := .ref (a5 21)) (C := RX5) (T := TX5) (N := 30) hx hb hts in_X5_isFit_X5 hown hK hP 0 rfl rfl 20 (by decide) (hts (.fieldLink RX5 55 "TermLoomModel" "symbol" "[I") (by decide +kernel)) (fun _ h9 => h9) rfl dX5_isFit_7 ?_
  refine lv_iload_n hx hb dX5_isFit_10 rfl (lv_at hl 2 rfl) ?_
  by_cases hi : x2 < 0 ∨ 34100 ≤ (x2).toNatClampNeg
  · rw [if_pos hi] at h; exact no h
  rw [if_neg hi] at h
  refine va_iald (f := (σ 20)) hx hb hK hP 14 0 rfl rfl (i := x2) hi dX5_isFit_11 ?_
  refine lv_icmp_eq (tgt := 17) hx hb dX5_isFit_12 (by decide) (fun hc1 => ?_) (fun hc1 => ?_)
  · rw [if_pos hc1] at h
    refine lv_aload_n hx hb dX5_isFit_17 rfl (lv_at hl 0 rfl) ?_
    refine va_get (D := D) (ci := 5) (v := .ref (a5 21)) (C := RX5) (T := TX5) (N := 30) hx hb hts in_X5_isFit_X5 hown hK hP 0 rfl rfl 20 (by decide) (hts (.fieldLink RX5 55 "TermLoomModel" "symbol" "[I") (by decide +kernel)) (fun _ h9 => h9) rfl dX5_isFit_18 ?_
    refine lv_iload_n hx hb dX5_isFit_21 rfl (lv_at hl 1 rfl) ?_
    by_cases hi : x1 < 0 ∨ 34100 ≤ (x1).toNatClampNeg
    · rw [if_pos hi] at h; exact no h
    rw [if_neg hi] at h
    refine va_iald (f := (σ 20)) hx hb hK hP 14 0 rfl rfl (i := x1) hi dX5_isFit_22 ?_
    refine lv_bipush (v := (-2)) hx hb dX5_isFit_23 rfl ?_
    refine lv_icmp_ne (tgt := 55) hx hb dX5_isFit_25 (by decide) (fun hc2 => ?_) (fun hc2 => ?_)
    · rw [if_neg hc2] at h
      refine lv_aload_n hx hb dX5_isFit_55 rfl (lv_at hl 0 rfl) ?_
      refine va_get (D := D) (ci := 5) (v := .ref (a5 21)) (C := RX5) (T := TX5) (N := 30) hx hb hts in_X5_isFit_X5 hown hK hP 0 rfl rfl 20 (by decide) (hts (.fieldLink RX5 55 "TermLoomModel" "symbol" "[I") (by decide +kernel)) (fun _ h9 => h9) rfl dX5_isFit_56 ?_
      refine lv_iload_n hx hb dX5_isFit_59 rfl (lv_at hl 1 rfl) ?_
      by_cases hi : x1 < 0 ∨ 34100 ≤ (x1).toNatClampNeg
      · rw [if_pos hi] at h; exact no h
      rw [if_neg hi] at h
      refine va_iald (f := (σ 20)) hx hb hK hP 14 0 rfl rfl (i := x1) hi dX5_isFit_60 ?_
      refine lv_iconst (v := 4) hx hb dX5_isFit_61 rfl ?_
      refine lv_irem hx hb dX5_isFit_62 (by decide) ?_
      refine lv_iconst (v := 2) hx hb dX5_isFit_63 rfl ?_
      refine lv_icmp_ne (tgt := 86) hx hb dX5_isFit_64 (by decide) (fun hc3 => ?_) (fun hc3 => ?_)
      · rw [if_neg hc3] at h
        exact k_X5_isFit_86 C0 N σ _ _ _ hP hD hS (lv_sub hl [] rfl) h
      · rw [if_pos hc3] at h
        refine lv_aload_n hx hb dX5_isFit_67 rfl (lv_at hl 0 rfl) ?_
        refine lv_aload_n hx hb dX5_isFit_68 rfl (lv_at hl 0 rfl) ?_
        refine va_get (D := D) (ci := 5) (v := .ref (a5 22)) (C := RX5) (T := TX5) (N := 30) hx hb hts in_X5_isFit_X5 hown hK hP 0 rfl rfl 21 (by decide) (hts (.fieldLink RX5 58 "TermLoomModel" "type" "[I") (by decide +kernel)) (fun _ h9 => h9) rfl dX5_isFit_69 ?_
        refine lv_iload_n hx hb dX5_isFit_72 rfl (lv_at hl 1 rfl) ?_
        by_cases hi : x1 < 0 ∨ 34100 ≤ (x1).toNatClampNeg
        · rw [if_pos hi] at h; exact no h
        rw [if_neg hi] at h
        refine va_iald (f := (σ 21)) hx hb hK hP 15 0 rfl rfl (i := x1) hi dX5_isFit_73 ?_
        refine lv_aload_n hx hb dX5_isFit_74 rfl (lv_at hl 0 rfl) ?_
        refine va_get (D := D) (ci := 5) (v := .ref (a5 22)) (C := RX5) (T := TX5) (N := 30) hx hb hts in_X5_isFit_X5 hown hK hP 0 rfl rfl 21 (by decide) (hts (.fieldLink RX5 58 "TermLoomModel" "type" "[I") (by decide +kernel)) (fun _ h9 => h9) rfl dX5_isFit_75 ?_
        refine lv_iload_n hx hb dX5_isFit_78 rfl (lv_at hl 2 rfl) ?_
        by_cases hi : x2 < 0 ∨ 34100 ≤ (x2).toNatClampNeg
        · rw [if_pos hi] at h; exact no h
        rw [if_neg hi] at h
        refine va_iald (f := (σ 21)) hx hb hK hP 15 0 rfl rfl (i := x2) hi dX5_isFit_79 ?_
        obtain ⟨q4, hq4, h⟩ := ob h
        refine mc_i (ws' := wX5 a5 cI cZ q4.2) (wr := ([] : va_W)) [0, 1, 2, 3, 4, 5, 6, 7, 8, 9, 10, 11, 12, 13, 14, 15, 16, 17, 18, 19, 20, 21, 22] [] [0, 1, 2, 3, 4, 5, 6, 7, 8, 9, 10, 11, 12, 13, 14, 15, 16, 17, 18, 19, 20, 21, 22] (va_runV (As := [.int (σ 21 (x1).toNatClampNeg), .int (σ 21 (x2).toNatClampNeg)]) (rest := []) ⟨hx, hb, hml, hown, hts⟩ (c_X5_fits l D cI cZ a5 N σ (σ 21 (x1).toNatClampNeg) (σ 21 (x2).toNatClampNeg) q4.1 q4.2 hq4 H.size) (cwV 2 hts gX5_isFit_X5_fits rfl rfl rfl (by decide +kernel) ⟨Nat.le_of_ble_eq_true rfl, Nat.le_of_ble_eq_true rfl⟩) (pV [0, 1, 2, 3, 4, 5, 6, 7, 8, 9, 10, 11, 12, 13, 14, 15, 16, 17, 18, 19, 20, 21, 22] hP hD hK hN rfl rfl rfl rfl) rfl rfl hl.1 rfl (lv_room (Nat.le_of_ble_eq_true rfl)) dX5_isFit_80 ⟨Nat.le_of_ble_eq_true rfl, Nat.le_of_ble_eq_true rfl⟩) hP hD hS hA rfl rfl rfl (by decide) rfl rfl (fun H locs hP hD hS => ?_)
        refine lv_if_eq (tgt := 90) hx hb dX5_isFit_83 (by decide) (fun hc5 => ?_) (fun hc5 => ?_)
        · rw [if_pos hc5] at h
          refine lv_iconst (v := 0) hx hb dX5_isFit_90 rfl ?_
          exact k_X5_isFit_91 C0 N q4.2 0 _ _ _ hP hD hS (lv_sub hl [] rfl) h
        · rw [if_neg hc5] at h
          exact k_X5_isFit_86 C0 N q4.2 _ _ _ hP hD hS (lv_sub hl [] rfl) h
    · rw [if_pos hc2] at h
      refine lv_aload_n hx hb dX5_isFit_28 rfl (lv_at hl 0 rfl) ?_
      refine lv_aload_n hx hb dX5_isFit_29 rfl (lv_at hl 0 rfl) ?_
      refine va_get (D := D) (ci := 5) (v := .ref (a5 8)) (C := RX5) (T := TX5) (N := 30) hx hb hts in_X5_isFit_X5 hown hK hP 0 rfl rfl 7 (by decide) (hts (.fieldLink RX5 23 "TermLoomModel" "left" "[I") (by decide +kernel)) (fun _ h9 => h9) rfl dX5_isFit_30 ?_
      refine lv_aload_n hx hb dX5_isFit_33 rfl (lv_at hl 0 rfl) ?_
      refine va_get (D := D) (ci := 5) (v := .ref (a5 22)) (C := RX5) (T := TX5) (N := 30) hx hb hts in_X5_isFit_X5 hown hK hP 0 rfl rfl 21 (by decide) (hts (.fieldLink RX5 58 "TermLoomModel" "type" "[I") (by decide +kernel)) (fun _ h9 => h9) rfl dX5_isFit_34 ?_
      refine lv_iload_n hx hb dX5_isFit_37 rfl (lv_at hl 1 rfl) ?_
      by_cases hi : x1 < 0 ∨ 34100 ≤ (x1).toNatClampNeg
      · rw [if_pos hi] at h; exact no h
      rw [if_neg hi] at h
      refine va_iald (f := (σ 21)) hx hb hK hP 15 0 rfl rfl (i := x1) hi dX5_isFit_38 ?_
      by_cases hi : (σ 21 (x1).toNatClampNeg) < 0 ∨ 16000 ≤ ((σ 21 (x1).toNatClampNeg)).toNatClampNeg
      · rw [if_pos hi] at h; exact no h
      rw [if_neg hi] at h
      refine va_iald (f := (σ 7)) hx hb hK hP 4 0 rfl rfl (i := (σ 21 (x1).toNatClampNeg)) hi dX5_isFit_39 ?_
      refine lv_aload_n hx hb dX5_isFit_40 rfl (lv_at hl 0 rfl) ?_
      refine va_get (D := D) (ci := 5) (v := .ref (a5 8)) (C := RX5) (T := TX5) (N := 30) hx hb hts in_X5_isFit_X5 hown hK hP 0 rfl rfl 7 (by decide) (hts (.fieldLink RX5 23 "TermLoomModel" "left" "[I") (by decide +kernel)) (fun _ h9 => h9) rfl dX5_isFit_41 ?_
      refine lv_aload_n hx hb dX5_isFit_44 rfl (lv_at hl 0 rfl) ?_
      refine va_get (D := D) (ci := 5) (v := .ref (a5 22)) (C := RX5) (T := TX5) (N := 30) hx hb hts in_X5_isFit_X5 hown hK hP 0 rfl rfl 21 (by decide) (hts (.fieldLink RX5 58 "TermLoomModel" "type" "[I") (by decide +kernel)) (fun _ h9 => h9) rfl dX5_isFit_45 ?_
      refine lv_iload_n hx hb dX5_isFit_48 rfl (lv_at hl 2 rfl) ?_
      by_cases hi : x2 < 0 ∨ 34100 ≤ (x2).toNatClampNeg
      · rw [if_pos hi] at h; exact no h
      rw [if_neg hi] at h
      refine va_iald (f := (σ 21)) hx hb hK hP 15 0 rfl rfl (i := x2) hi dX5_isFit_49 ?_
      by_cases hi : (σ 21 (x2).toNatClampNeg) < 0 ∨ 16000 ≤ ((σ 21 (x2).toNatClampNeg)).toNatClampNeg
      · rw [if_pos hi] at h; exact no h
      rw [if_neg hi] at h
      refine va_iald (f := (σ 7)) hx hb hK hP 4 0 rfl rfl (i := (σ 21 (x2).toNatClampNeg)) hi dX5_isFit_50 ?_
      obtain ⟨q6, hq6, h⟩ := ob h
      refine mc_i (ws' := wX5 a5 cI cZ q6.2) (wr := ([] : va_W)) [0, 1, 2, 3, 4, 5, 6, 7, 8, 9, 10, 11, 12, 13, 14, 15, 16, 17, 18, 19, 20, 21, 22] [] [0, 1, 2, 3, 4, 5, 6, 7, 8, 9, 10, 11, 12, 13, 14, 15, 16, 17, 18, 19, 20, 21, 22] (va_runV (As := [.int (σ 7 ((σ 21 (x1).toNatClampNeg)).toNatClampNeg), .int (σ 7 ((σ 21 (x2).toNatClampNeg)).toNatClampNeg)]) (rest := []) ⟨hx, hb, hml, hown, hts⟩ (c_X5_fits l D cI cZ a5 N σ (σ 7 ((σ 21 (x1).toNatClampNeg)).toNatClampNeg) (σ 7 ((σ 21 (x2).toNatClampNeg)).toNatClampNeg) q6.1 q6.2 hq6 H.size) (cwV 2 hts gX5_isFit_X5_fits rfl rfl rfl (by decide +kernel) ⟨Nat.le_of_ble_eq_true rfl, Nat.le_of_ble_eq_true rfl⟩) (pV [0, 1, 2, 3, 4, 5, 6, 7, 8, 9, 10, 11, 12, 13, 14, 15, 16, 17, 18, 19, 20, 21, 22] hP hD hK hN rfl rfl rfl rfl) rfl rfl hl.1 rfl (lv_room (Nat.le_of_ble_eq_true rfl)) dX5_isFit_51 ⟨Nat.le_of_ble_eq_true rfl, Nat.le_of_ble_eq_true rfl⟩) hP hD hS hA rfl rfl rfl (by decide) rfl rfl (fun H locs hP hD hS => ?_)
      by_cases hz : q6.1 = 0 ∨ q6.1 = 1
      · rw [if_pos hz] at h
        obtain ⟨rfl, rfl⟩ := so h
        exact ret_z C0 hz hP hD hS dX5_isFit_54
      · rw [if_neg hz] at h; exact no h
  · rw [if_neg hc1] at h
    refine lv_iconst (v := 0) hx hb dX5_isFit_15 rfl ?_
    obtain ⟨rfl, rfl⟩ := so h
    exact ret_z C0 (Or.inl rfl) hP hD hS dX5_isFit_16

theorem in_X5_match_X5 : ∀ w ∈ u_ws RX5 TX5 30, w ∈ wsX5_match := by decide +kernel
def f_X5_match_172 (N : Nat) (σ : St) : Option (Int32 × St) := some ((σ 26 0), σ)
def f_X5_match_162 (N : Nat) (σ : St) (x4 : Int32) : Option (Int32 × St) := if x4 = 0 then bnd (up2 σ 26 0 (-1)) (fun σ2 => f_X5_match_172 N σ2) else f_X5_match_172 N σ
def f_X5_match_151 (N : Nat) (k61 : St → Int32 → Int32 → Int32 → Int32 → Option (Int32 × St)) (σ : St) (x1 x5 x7 s0 : Int32) : Option (Int32 × St) := k61 σ x1 x7 s0 (x5 + 1)
def f_X5_match_125 (N : Nat) (k61 : St → Int32 → Int32 → Int32 → Int32 → Option (Int32 × St)) (σ : St) (x1 x3 x5 x6 s0 : Int32) : Option (Int32 × St) := if x6 = 0 then (f_X5_isFit N σ x5 x3).bind (fun q2 => f_X5_match_151 N k61 q2.2 x1 x5 s0 q2.1) else (f_X5_takesPart N σ x5 x3 s0).bind (fun q3 => f_X5_match_151 N k61 q3.2 x1 x5 s0 q3.1)
def f_X5_match_107 (N : Nat) (k61 : St → Int32 → Int32 → Int32 → Int32 → Option (Int32 × St)) (σ : St) (x1 x3 x5 s0 : Int32) : Option (Int32 × St) := if s0 = 0 then f_X5_match_125 N k61 σ x1 x3 x5 s0 (x3 + 1) else (f_X5_endOf N σ x3).bind (fun q2 => f_X5_match_125 N k61 q2.2 x1 x3 x5 s0 q2.1)
def f_X5_match_106 (N : Nat) (k61 : St → Int32 → Int32 → Int32 → Int32 → Option (Int32 × St)) (σ : St) (x1 x3 x5 : Int32) : Option (Int32 × St) := f_X5_match_107 N k61 σ x1 x3 x5 0
def f_X5_match_61 (N : Nat) : Nat → St → Int32 → Int32 → Int32 → Int32 → Option (Int32 × St)
  | 0, _, _, _, _, _ => none
  | n + 1, σ, x1, x3, x4, x5 => if (x1 + 1) < 0 ∨ 4201 ≤ ((x1 + 1)).toNatClampNeg then none else if (σ 19 ((x1 + 1)).toNatClampNeg) ≤ x5 then f_X5_match_162 N σ x4 else if x4 = 0 then f_X5_match_162 N σ x4 else if x5 < 0 ∨ 34100 ≤ (x5).toNatClampNeg then none else if (σ 20 (x5).toNatClampNeg) < 0 then f_X5_match_106 N (f_X5_match_61 N n) σ x1 x3 x5 else if x5 < 0 ∨ 34100 ≤ (x5).toNatClampNeg then none else if ((σ 20 (x5).toNatClampNeg) - (σ 20 (x5).toNatClampNeg) / 4 * 4) = 1 then f_X5_match_107 N (f_X5_match_61 N n) σ x1 x3 x5 1 else f_X5_match_106 N (f_X5_match_61 N n) σ x1 x3 x5
def f_X5_match_22 (N : Nat) (σ : St) (x1 x2 s1 : Int32) : Option (Int32 × St) := bnd (up2 σ 0 0 s1) (fun σ1 => if (σ1 0 0) ≤ 0 then (f_X5_freeTypes N σ1).bind (fun q3 => bnd (up2 q3 26 0 0) (fun σ4 => if x2 < 0 ∨ 4201 ≤ (x2).toNatClampNeg then none else if x1 < 0 ∨ 4201 ≤ (x1).toNatClampNeg then none else f_X5_match_61 N N σ4 x1 (σ4 19 (x2).toNatClampNeg) 1 (σ4 19 (x1).toNatClampNeg))) else some (0, σ1))
def f_X5_match_21 (N : Nat) (σ : St) (x1 x2 : Int32) : Option (Int32 × St) := f_X5_match_22 N σ x1 x2 1
def f_X5_match (N : Nat) (σ : St) (x1 x2 : Int32) : Option (Int32 × St) := (f_X5_isTerm N σ x1).bind (fun q1 => if q1.1 = 0 then f_X5_match_21 N q1.2 x1 x2 else (f_X5_isTerm N q1.2 x2).bind (fun q3 => if q3.1 = 0 then f_X5_match_21 N q3.2 x1 x2 else f_X5_match_22 N q3.2 x1 x2 0))
abbrev KP_X5_match_172 (p : Program) (l : Launch) (e : Env) (s : State) (m : MethodId) (args : Array Value) (below : List Frame) (meth : Method) (c : Code) (D : va_G) (cI cZ : ClassId) (a5 : Nat → Nat) (A : Nat → Prop) (r : Int32) (u1 : St) (K : St → Option (Int32 × St)) : Prop := ∀ (σ : St) (H : Heap) (locs : List Loc) (ls : Array Slot), va_P D vwCl (wX5 a5 cI cZ σ) H → va_D A (wX5 a5 cI cZ σ) → va_S A s.heap H locs → lv_has ls 8 [(0, .ref (a5 0))] → K σ = some (r, u1) → W p l e ({ frames := 3, cells := 0, slots := 0, locals := 71 } : Room) s m args below meth c H locs 0 0 (QI below args s D cI cZ (wX5 a5 cI cZ) A r u1) (F0 m 172 ls [])
abbrev KP_X5_match_162 (p : Program) (l : Launch) (e : Env) (s : State) (m : MethodId) (args : Array Value) (below : List Frame) (meth : Method) (c : Code) (D : va_G) (cI cZ : ClassId) (a5 : Nat → Nat) (A : Nat → Prop) (r : Int32) (u1 : St) (K : St → Int32 → Option (Int32 × St)) : Prop := ∀ (σ : St) (x4 : Int32) (H : Heap) (locs : List Loc) (ls : Array Slot), va_P D vwCl (wX5 a5 cI cZ σ) H → va_D A (wX5 a5 cI cZ σ) → va_S A s.heap H locs → lv_has ls 8 [(0, .ref (a5 0)), (4, .int x4)] → K σ x4 = some (r, u1) → W p l e ({ frames := 3, cells := 0, slots := 0, locals := 71 } : Room) s m args below meth c H locs 0 0 (QI below args s D cI cZ (wX5 a5 cI cZ) A r u1) (F0 m 162 ls [])
abbrev KP_X5_match_151 (p : Program) (l : Launch) (e : Env) (s : State) (m : MethodId) (args : Array Value) (below : List Frame) (meth : Method) (c : Code) (D : va_G) (cI cZ : ClassId) (a5 : Nat → Nat) (A : Nat → Prop) (r : Int32) (u1 : St) (K : St → Int32 → Int32 → Int32 → Int32 → Option (Int32 × St)) : Prop := ∀ (σ : St) (x1 x5 x7 s0 : Int32) (H : Heap) (locs : List Loc) (ls : Array Slot), va_P D vwCl (wX5 a5 cI cZ σ) H → va_D A (wX5 a5 cI cZ σ) → va_S A s.heap H locs → lv_has ls 8 [(0, .ref (a5 0)), (1, .int x1), (5, .int x5), (7, .int x7)] → K σ x1 x5 x7 s0 = some (r, u1) → W p l e ({ frames := 3, cells := 0, slots := 0, locals := 71 } : Room) s m args below meth c H locs 0 0 (QI below args s D cI cZ (wX5 a5 cI cZ) A r u1) (F0 m 151 ls [.int s0])
abbrev KP_X5_match_125 (p : Program) (l : Launch) (e : Env) (s : State) (m : MethodId) (args : Array Value) (below : List Frame) (meth : Method) (c : Code) (D : va_G) (cI cZ : ClassId) (a5 : Nat → Nat) (A : Nat → Prop) (r : Int32) (u1 : St) (K : St → Int32 → Int32 → Int32 → Int32 → Int32 → Option (Int32 × St)) : Prop := ∀ (σ : St) (x1 x3 x5 x6 s0 : Int32) (H : Heap) (locs : List Loc) (ls : Array Slot), va_P D vwCl (wX5 a5 cI cZ σ) H → va_D A (wX5 a5 cI cZ σ) → va_S A s.heap H locs → lv_has ls 8 [(0, .ref (a5 0)), (1, .int x1), (3, .int x3), (5, .int x5), (6, .int x6)] → K σ x1 x3 x5 x6 s0 = some (r, u1) → W p l e ({ frames := 3, cells := 0, slots := 0, locals := 71 } : Room) s m args below meth c H locs 0 0 (QI below args s D cI cZ (wX5 a5 cI cZ) A r u1) (F0 m 125 ls [.int s0])
abbrev KP_X5_match_107 (p : Program) (l : Launch) (e : Env) (s : State) (m : MethodId) (args : Array Value) (below : List Frame) (meth : Method) (c : Code) (D : va_G) (cI cZ : ClassId) (a5 : Nat → Nat) (A : Nat → Prop) (r : Int32) (u1 : St) (K : St → Int32 → Int32 → Int32 → Int32 → Option (Int32 × St)) : Prop := ∀ (σ : St) (x1 x3 x5 s0 : Int32) (H : Heap) (locs : List Loc) (ls : Array Slot), va_P D vwCl (wX5 a5 cI cZ σ) H → va_D A (wX5 a5 cI cZ σ) → va_S A s.heap H locs → lv_has ls 8 [(0, .ref (a5 0)), (1, .int x1), (3, .int x3), (5, .int x5)] → K σ x1 x3 x5 s0 = some (r, u1) → W p l e ({ frames := 3, cells := 0, slots := 0, locals := 71 } : Room) s m args below meth c H locs 0 0 (QI below args s D cI cZ (wX5 a5 cI cZ) A r u1) (F0 m 107 ls [.int s0])
abbrev KP_X5_match_106 (p : Program) (l : Launch) (e : Env) (s : State) (m : MethodId) (args : Array Value) (below : List Frame) (meth : Method) (c : Code) (D : va_G) (cI cZ : ClassId) (a5 : Nat → Nat) (A : Nat → Prop) (r : Int32) (u1 : St) (K : St → Int32 → Int32 → Int32 → Option (Int32 × St)) : Prop := ∀ (σ : St) (x1 x3 x5 : Int32) (H : Heap) (locs : List Loc) (ls : Array Slot), va_P D vwCl (wX5 a5 cI cZ σ) H → va_D A (wX5 a5 cI cZ σ) → va_S A s.heap H locs → lv_has ls 8 [(0, .ref (a5 0)), (1, .int x1), (3, .int x3), (5, .int x5)] → K σ x1 x3 x5 = some (r, u1) → W p l e ({ frames := 3, cells := 0, slots := 0, locals := 71 } : Room) s m args below meth c H locs 0 0 (QI below args s D cI cZ (wX5 a5 cI cZ) A r u1) (F0 m 106 ls [])
abbrev KP_X5_match_61 (p : Program) (l : Launch) (e : Env) (s : State) (m : MethodId) (args : Array Value) (below : List Frame) (meth : Method) (c : Code) (D : va_G) (cI cZ : ClassId) (a5 : Nat → Nat) (A : Nat → Prop) (r : Int32) (u1 : St) (K : St → Int32 → Int32 → Int32 → Int32 → Option (Int32 × St)) : Prop := ∀ (σ : St) (x1 x3 x4 x5 : Int32) (H : Heap) (locs : List Loc) (ls : Array Slot), va_P D vwCl (wX5 a5 cI cZ σ) H → va_D A (wX5 a5 cI cZ σ) → va_S A s.heap H locs → lv_has ls 8 [(0, .ref (a5 0)), (1, .int x1), (3, .int x3), (4, .int x4), (5, .int x5)] → K σ x1 x3 x4 x5 = some (r, u1) → W p l e ({ frames := 3, cells := 0, slots := 0, locals := 71 } : Room) s m args below meth c H locs 0 0 (QI below args s D cI cZ (wX5 a5 cI cZ) A r u1) (F0 m 61 ls [])
abbrev KP_X5_match_22 (p : Program) (l : Launch) (e : Env) (s : State) (m : MethodId) (args : Array Value) (below : List Frame) (meth : Method) (c : Code) (D : va_G) (cI cZ : ClassId) (a5 : Nat → Nat) (A : Nat → Prop) (r : Int32) (u1 : St) (K : St → Int32 → Int32 → Int32 → Option (Int32 × St)) : Prop := ∀ (σ : St) (x1 x2 s1 : Int32) (H : Heap) (locs : List Loc) (ls : Array Slot), va_P D vwCl (wX5 a5 cI cZ σ) H → va_D A (wX5 a5 cI cZ σ) → va_S A s.heap H locs → lv_has ls 8 [(0, .ref (a5 0)), (1, .int x1), (2, .int x2)] → K σ x1 x2 s1 = some (r, u1) → W p l e ({ frames := 3, cells := 0, slots := 0, locals := 71 } : Room) s m args below meth c H locs 0 0 (QI below args s D cI cZ (wX5 a5 cI cZ) A r u1) (F0 m 22 ls [.int s1, .ref (a5 0)])
abbrev KP_X5_match_21 (p : Program) (l : Launch) (e : Env) (s : State) (m : MethodId) (args : Array Value) (below : List Frame) (meth : Method) (c : Code) (D : va_G) (cI cZ : ClassId) (a5 : Nat → Nat) (A : Nat → Prop) (r : Int32) (u1 : St) (K : St → Int32 → Int32 → Option (Int32 × St)) : Prop := ∀ (σ : St) (x1 x2 : Int32) (H : Heap) (locs : List Loc) (ls : Array Slot), va_P D vwCl (wX5 a5 cI cZ σ) H → va_D A (wX5 a5 cI cZ σ) → va_S A s.heap H locs → lv_has ls 8 [(0, .ref (a5 0)), (1, .int x1), (2, .int x2)] → K σ x1 x2 = some (r, u1) → W p l e ({ frames := 3, cells := 0, slots := 0, locals := 71 } : Room) s m args below meth c H locs 0 0 (QI below args s D cI cZ (wX5 a5 cI cZ) A r u1) (F0 m 21 ls [.ref (a5 0)])
set_option maxHeartbeats 4000000 in
set_option maxRecDepth 100000 in
theorem k_X5_match_172 {p : Program} {l : Launch} {e : Env} {s : State} {m : MethodId} {args : Array Value} {below : List Frame} {meth : Method} {c : Code} {D : va_G} {cI cZ : ClassId} {a5 : Nat → Nat} {A : Nat → Prop} {r : Int32} {u1 : St} (C0 : mB p s m args meth c D cI cZ A cX5_match 8 (some .int) wsX5_match RX5) (N : Nat) : KP_X5_match_172 p l e s m args below meth c D cI cZ a5 A r u1 (f_X5_match_172 N) := by
  obtain ⟨hx, hb, hml, hr, hown, hts, hlocks, hA, hK, hN⟩ := id C0
  intro σ H locs ls hP hD hS hl h
  unfold f_X5_match_172 at h
  refine lv_aload_n hx hb dX5_match_172 rfl (lv_at hl 0 rfl) ?_
  refine va_get (D := D) (ci := 5) (v := .int (σ 26 0)) (C := RX5) (T := TX5) (N := 30) hx hb hts in_X5_match_X5 hown hK hP 0 rfl rfl 26 (by decide) (hts (.fieldLink RX5 73 "TermLoomModel" "found" "I") (by decide +kernel)) (fun _ h9 => h9) rfl dX5_match_173 ?_
  obtain ⟨rfl, rfl⟩ := so h
  exact ret_i C0 hP hD hS dX5_match_176
set_option maxHeartbeats 4000000 in
set_option maxRecDepth 100000 in
theorem k_X5_match_162 {p : Program} {l : Launch} {e : Env} {s : State} {m : MethodId} {args : Array Value} {below : List Frame} {meth : Method} {c : Code} {D : va_G} {cI cZ : ClassId} {a5 : Nat → Nat} {A : Nat → Prop} {r : Int32} {u1 : St} (C0 : mB p s m args meth c D cI cZ A cX5_match 8 (some .int) wsX5_match RX5) (N : Nat) : KP_X5_match_162 p l e s m args below meth c D cI cZ a5 A r u1 (f_X5_match_162 N) := by
  obtain ⟨hx, hb, hml, hr, hown, hts, hlocks, hA, hK, hN⟩ := id C0
  intro σ x4 H locs ls hP hD hS hl h
  unfold f_X5_match_162 at h
  refine lv_iload hx hb dX5_match_162 (lv_at hl 1 rfl) ?_
  refine lv_if_ne (tgt := 172) hx hb dX5_match_164 (by decide) (fun hc1 => ?_) (fun hc1 => ?_)
  · rw [if_neg hc1] at h
    exact k_X5_match_172 C0 N σ _ _ _ hP hD hS (lv_sub hl [0] rfl) h
  · rw [if_pos hc1] at h
    refine lv_aload_n hx hb dX5_match_167 rfl (lv_at hl 0 rfl) ?_
    refine lv_iconst (v := (-1)) hx hb dX5_match_168 rfl ?_
    refine va_put (D := D) (ci := 5) (v := .int (-1)) (ty := .int) (C := RX5) (T := TX5) (N := 30) hx hb hts in_X5_match_X5 tyX5 tyX5_ok nmX5 hown hK hP hD hS 0 rfl rfl 26 (by decide) (hts (.fieldLink RX5 73 "TermLoomModel" "found" "I") (by decide +kernel)) (fun _ h9 => h9) rfl (by decide +kernel) rfl rfl (Nat.le_of_ble_eq_true rfl) dX5_match_169 (fun H locs hP hD hS => ?_)
    obtain ⟨σ2, eσ2, h⟩ := bn h
    have hP : va_P D vwCl (wX5 a5 cI cZ σ2) H := by rw [eσ2]; exact hP
    have hD : va_D A (wX5 a5 cI cZ σ2) := by rw [eσ2]; exact hD
    exact k_X5_match_172 C0 N σ2 _ _ _ hP hD hS (lv_sub hl [0] rfl) h
set_option maxHeartbeats 4000000 in
set_option maxRecDepth 100000 in
theorem k_X5_match_151 {p : Program} {l : Launch} {e : Env} {s : State} {m : MethodId} {args : Array Value} {below : List Frame} {meth : Method} {c : Code} {D : va_G} {cI cZ : ClassId} {a5 : Nat → Nat} {A : Nat → Prop} {r : Int32} {u1 : St} (C0 : mB p s m args meth c D cI cZ A cX5_match 8 (some .int) wsX5_match RX5) (N : Nat) (k61 : St → Int32 → Int32 → Int32 → Int32 → Option (Int32 × St)) (hk61 : KP_X5_match_61 p l e s m args below meth c D cI cZ a5 A r u1 k61) : KP_X5_match_151 p l e s m args below meth c D cI cZ a5 A r u1 (f_X5_match_151 N k61) := by
  obtain ⟨hx, hb, hml, hr, hown, hts, hlocks, hA, hK, hN⟩ := id C0
  intro σ x1 x5 x7 s0 H locs ls hP hD hS hl h
  unfold f_X5_match_151 at h
  refine lv_istore (lv' := [(4, .int s0), (0, .ref (a5 0)), (1, .int x1), (5, .int x5), (7, .int x7)]) hx hb dX5_match_151 hl (by decide) rfl (fun ls hl => ?_)
  refine lv_iload hx hb dX5_match_153 (lv_at hl 4 rfl) ?_
  refine lv_istore_n (lv' := [(3, .int x7), (4, .int s0), (0, .ref (a5 0)), (1, .int x1), (5, .int x5), (7, .int x7)]) hx hb dX5_match_155 rfl hl (by decide) rfl (fun ls hl => ?_)
  refine lv_iinc (v := (x5 + 1)) (lv' := [(5, .int (x5 + 1)), (3, .int x7), (4, .int s0), (0, .ref (a5 0)), (1, .int x1), (7, .int x7)]) hx hb dX5_match_156 hl (k := 4) rfl rfl (by decide) rfl (fun ls hl => ?_)
  refine lv_goto (tgt := 61) hx hb dX5_match_159 (by decide) ?_
  exact hk61 σ x1 x7 s0 (x5 + 1) _ _ _ hP hD hS (lv_sub hl [3, 4, 1, 2, 0] rfl) h
set_option maxHeartbeats 4000000 in
set_option maxRecDepth 100000 in
theorem k_X5_match_125 {p : Program} {l : Launch} {e : Env} {s : State} {m : MethodId} {args : Array Value} {below : List Frame} {meth : Method} {c : Code} {D : va_G} {cI cZ : ClassId} {a5 : Nat → Nat} {A : Nat → Prop} {r : Int32} {u1 : St} (C0 : mB p s m args meth c D cI cZ A cX5_match 8 (some .int) wsX5_match RX5) (N : Nat) (k61 : St → Int32 → Int32 → Int32 → Int32 → Option (Int32 × St)) (hk61 : KP_X5_match_61 p l e s m args below meth c D cI cZ a5 A r u1 k61) : KP_X5_match_125 p l e s m args below meth c D cI cZ a5 A r u1 (f_X5_match_125 N k61) := by
  obtain ⟨hx, hb, hml, hr, hown, hts, hlocks, hA, hK, hN⟩ := id C0
  intro σ x1 x3 x5 x6 s0 H locs ls hP hD hS hl h
  unfold f_X5_match_125 at h
  refine lv_istore (lv' := [(7, .int s0), (0, .ref (a5 0)), (1, .int x1), (3, .int x3), (5, .int x5), (6, .int x6)]) hx hb dX5_match_125 hl (by decide) rfl (fun ls hl => ?_)
  refine lv_iload hx hb dX5_match_127 (lv_at hl 5 rfl) ?_
  refine lv_if_eq (tgt := 144) hx hb dX5_match_129 (by decide) (fun hc1 => ?_) (fun hc1 => ?_)
  · rw [if_pos hc1] at h
    refine lv_aload_n hx hb dX5_match_144 rfl (lv_at hl 1 rfl) ?_
    refine lv_iload hx hb dX5_match_145 (lv_at hl 4 rfl) ?_
    refine lv_iload_n hx hb dX5_match_147 rfl (lv_at hl 3 rfl) ?_
    obtain ⟨q2, hq2, h⟩ := ob h
    refine mc_i (ws' := wX5 a5 cI cZ q2.2) (wr := ([] : va_W)) [0, 1, 2, 3, 4, 5, 6, 7, 8, 9, 10, 11, 12, 13, 14, 15, 16, 17, 18, 19, 20, 21, 22] [] [0, 1, 2, 3, 4, 5, 6, 7, 8, 9, 10, 11, 12, 13, 14, 15, 16, 17, 18, 19, 20, 21, 22] (va_runV (As := [.int x5, .int x3]) (rest := []) ⟨hx, hb, hml, hown, hts⟩ (c_X5_isFit l D cI cZ a5 N σ x5 x3 q2.1 q2.2 hq2 H.size) (cwV 2 hts gX5_match_X5_isFit rfl rfl rfl (by decide +kernel) ⟨Nat.le_of_ble_eq_true rfl, Nat.le_of_ble_eq_true rfl⟩) (pV [0, 1, 2, 3, 4, 5, 6, 7, 8, 9, 10, 11, 12, 13, 14, 15, 16, 17, 18, 19, 20, 21, 22] hP hD hK hN rfl rfl rfl rfl) rfl rfl hl.1 rfl (lv_room (Nat.le_of_ble_eq_true rfl)) dX5_match_148 ⟨Nat.le_of_ble_eq_true rfl, Nat.le_of_ble_eq_true rfl⟩) hP hD hS hA rfl rfl rfl (by decide) rfl rfl (fun H locs hP hD hS => ?_)
    exact k_X5_match_151 C0 N k61 hk61 q2.2 x1 x5 s0 q2.1 _ _ _ hP hD hS (lv_sub hl [1, 2, 4, 0] rfl) h
  · rw [if_neg hc1] at h
    refine lv_aload_n hx hb dX5_match_132 rfl (lv_at hl 1 rfl) ?_
    refine lv_iload hx hb dX5_match_133 (lv_at hl 4 rfl) ?_
    refine lv_iload_n hx hb dX5_match_135 rfl (lv_at hl 3 rfl) ?_
    refine lv_iload hx hb dX5_match_136 (lv_at hl 0 rfl) ?_
    obtain ⟨q3, hq3, h⟩ := ob h
    refine mc_i (ws' := wX5 a5 cI cZ q3.2) (wr := ([] : va_W)) [0, 1, 2, 3, 4, 5, 6, 7, 8, 9, 10, 11, 12, 13, 14, 15, 16, 17, 18, 19, 20, 21, 22] [] [0, 1, 2, 3, 4, 5, 6, 7, 8, 9, 10, 11, 12, 13, 14, 15, 16, 17, 18, 19, 20, 21, 22] (va_runV (As := [.int x5, .int x3, .int s0]) (rest := []) ⟨hx, hb, hml, hown, hts⟩ (c_X5_takesPart l D cI cZ a5 N σ x5 x3 s0 q3.1 q3.2 hq3 H.size) (cwV 3 hts gX5_match_X5_takesPart rfl rfl rfl (by decide +kernel) ⟨Nat.le_of_ble_eq_true rfl, Nat.le_of_ble_eq_true rfl⟩) (pV [0, 1, 2, 3, 4, 5, 6, 7, 8, 9, 10, 11, 12, 13, 14, 15, 16, 17, 18, 19, 20, 21, 22] hP hD hK hN rfl rfl rfl rfl) rfl rfl hl.1 rfl (lv_room (Nat.le_of_ble_eq_true rfl)) dX5_match_138 ⟨Nat.le_of_ble_eq_true rfl, Nat.le_of_ble_eq_true rfl⟩) hP hD hS hA rfl rfl rfl (by decide) rfl rfl (fun H locs hP hD hS => ?_)
    refine lv_goto (tgt := 151) hx hb dX5_match_141 (by decide) ?_
    exact k_X5_match_151 C0 N k61 hk61 q3.2 x1 x5 s0 q3.1 _ _ _ hP hD hS (lv_sub hl [1, 2, 4, 0] rfl) h
set_option maxHeartbeats 4000000 in
set_option maxRecDepth 100000 in
theorem k_X5_match_107 {p : Program} {l : Launch} {e : Env} {s : State} {m : MethodId} {args : Array Value} {below : List Frame} {meth : Method} {c : Code} {D : va_G} {cI cZ : ClassId} {a5 : Nat → Nat} {A : Nat → Prop} {r : Int32} {u1 : St} (C0 : mB p s m args meth c D cI cZ A cX5_match 8 (some .int) wsX5_match RX5) (N : Nat) (k61 : St → Int32 → Int32 → Int32 → Int32 → Option (Int32 × St)) (hk61 : KP_X5_match_61 p l e s m args below meth c D cI cZ a5 A r u1 k61) : KP_X5_match_107 p l e s m args below meth c D cI cZ a5 A r u1 (f_X5_match_107 N k61) := by
  obtain ⟨hx, hb, hml, hr, hown, hts, hlocks, hA, hK, hN⟩ := id C0
  intro σ x1 x3 x5 s0 H locs ls hP hD hS hl h
  unfold f_X5_match_107 at h
  refine lv_istore (lv' := [(6, .int s0), (0, .ref (a5 0)), (1, .int x1), (3, .int x3), (5, .int x5)]) hx hb dX5_match_107 hl (by decide) rfl (fun ls hl => ?_)
  refine lv_iload hx hb dX5_match_109 (lv_at hl 0 rfl) ?_
  refine lv_if_eq (tgt := 122) hx hb dX5_match_111 (by decide) (fun hc1 => ?_) (fun hc1 => ?_)
  · rw [if_pos hc1] at h
    refine lv_iload_n hx hb dX5_match_122 rfl (lv_at hl 3 rfl) ?_
    refine lv_iconst (v := 1) hx hb dX5_match_123 rfl ?_
    refine lv_iadd hx hb dX5_match_124 ?_
    exact k_X5_match_125 C0 N k61 hk61 σ x1 x3 x5 s0 (x3 + 1) _ _ _ hP hD hS (lv_sub hl [1, 2, 3, 4, 0] rfl) h
  · rw [if_neg hc1] at h
    refine lv_aload_n hx hb dX5_match_114 rfl (lv_at hl 1 rfl) ?_
    refine lv_iload_n hx hb dX5_match_115 rfl (lv_at hl 3 rfl) ?_
    obtain ⟨q2, hq2, h⟩ := ob h
    refine mc_i (ws' := wX5 a5 cI cZ q2.2) (wr := ([] : va_W)) [0, 1, 2, 3, 4, 5, 6, 7, 8, 9, 10, 11, 12, 13, 14, 15, 16, 17, 18, 19, 20, 21, 22] [] [0, 1, 2, 3, 4, 5, 6, 7, 8, 9, 10, 11, 12, 13, 14, 15, 16, 17, 18, 19, 20, 21, 22] (va_runV (As := [.int x3]) (rest := []) ⟨hx, hb, hml, hown, hts⟩ (c_X5_endOf l D cI cZ a5 N σ x3 q2.1 q2.2 hq2 H.size) (cwV 1 hts gX5_match_X5_endOf rfl rfl rfl (by decide +kernel) ⟨Nat.le_of_ble_eq_true rfl, Nat.le_of_ble_eq_true rfl⟩) (pV [0, 1, 2, 3, 4, 5, 6, 7, 8, 9, 10, 11, 12, 13, 14, 15, 16, 17, 18, 19, 20, 21, 22] hP hD hK hN rfl rfl rfl rfl) rfl rfl hl.1 rfl (lv_room (Nat.le_of_ble_eq_true rfl)) dX5_match_116 ⟨Nat.le_of_ble_eq_true rfl, Nat.le_of_ble_eq_true rfl⟩) hP hD hS hA rfl rfl rfl (by decide) rfl rfl (fun H locs hP hD hS => ?_)
    refine lv_goto (tgt := 125) hx hb dX5_match_119 (by decide) ?_
    exact k_X5_match_125 C0 N k61 hk61 q2.2 x1 x3 x5 s0 q2.1 _ _ _ hP hD hS (lv_sub hl [1, 2, 3, 4, 0] rfl) h
set_option maxHeartbeats 4000000 in
set_option maxRecDepth 100000 in
theorem k_X5_match_106 {p : Program} {l : Launch} {e : Env} {s : State} {m : MethodId} {args : Array Value} {below : List Frame} {meth : Method} {c : Code} {D : va_G} {cI cZ : ClassId} {a5 : Nat → Nat} {A : Nat → Prop} {r : Int32} {u1 : St} (C0 : mB p s m args meth c D cI cZ A cX5_match 8 (some .int) wsX5_match RX5) (N : Nat) (k61 : St → Int32 → Int32 → Int32 → Int32 → Option (Int32 × St)) (hk61 : KP_X5_match_61 p l e s m args below meth c D cI cZ a5 A r u1 k61) : KP_X5_match_106 p l e s m args below meth c D cI cZ a5 A r u1 (f_X5_match_106 N k61) := by
  obtain ⟨hx, hb, hml, hr, hown, hts, hlocks, hA, hK, hN⟩ := id C0
  intro σ x1 x3 x5 H locs ls hP hD hS hl h
  unfold f_X5_match_106 at h
  refine lv_iconst (v := 0) hx hb dX5_match_106 rfl ?_
  exact k_X5_match_107 C0 N k61 hk61 σ x1 x3 x5 0 _ _ _ hP hD hS (lv_sub hl [0, 1, 2, 3] rfl) h
set_option maxHeartbeats 4000000 in
set_option maxRecDepth 100000 in
theorem k_X5_match_61 {p : Program} {l : Launch} {e : Env} {s : State} {m : MethodId} {args : Array Value} {below : List Frame} {meth : Method} {c : Code} {D : va_G} {cI cZ : ClassId} {a5 : Nat → Nat} {A : Nat → Prop} {r : Int32} {u1 : St} (C0 : mB p s m args meth c D cI cZ A cX5_match 8 (some .int) wsX5_match RX5) (N : Nat) : ∀ n : Nat, KP_X5_match_61 p l e s m args below meth c D cI cZ a5 A r u1 (f_X5_match_61 N n) := by
  obtain ⟨hx, hb, hml, hr, hown, hts, hlocks, hA, hK, hN⟩ := id C0
  intro n
  induction n with
  | zero =>
    intro σ x1 x3 x4 x5 H locs ls hP hD hS hl h
    exact no (show (none : Option (Int32 × St)) = _ from h)
  | succ n ih =>
    intro σ x1 x3 x4 x5 H locs ls hP hD hS hl h
    rw [f_X5_match_61] at h
    refine lv_iload hx hb dX5_match_61 (lv_at hl 4 rfl) ?_
    refine lv_aload_n hx hb dX5_match_63 rfl (lv_at hl 0 rfl) ?_
    refine va_get (D := D) (ci := 5) (v := .ref (a5 20)) (C := RX5) (T := TX5) (N := 30) hx hb hts in_X5_match_X5 hown hK hP 0 rfl rfl 19 (by decide) (hts (.fieldLink RX5 51 "TermLoomModel" "begin" "[I") (by decide +kernel)) (fun _ h9 => h9) rfl dX5_match_64 ?_
    refine lv_iload_n hx hb dX5_match_67 rfl (lv_at hl 1 rfl) ?_
    refine lv_iconst (v := 1) hx hb dX5_match_68 rfl ?_
    refine lv_iadd hx hb dX5_match_69 ?_
    by_cases hi : (x1 + 1) < 0 ∨ 4201 ≤ ((x1 + 1)).toNatClampNeg
    · rw [if_pos hi] at h; exact no h
    rw [if_neg hi] at h
    refine va_iald (f := (σ 19)) hx hb hK hP 13 0 rfl rfl (i := (x1 + 1)) hi dX5_match_70 ?_
    refine lv_icmp_ge (tgt := 162) hx hb dX5_match_71 (by decide) (fun hc1 => ?_) (fun hc1 => ?_)
    · rw [if_pos hc1] at h
      exact k_X5_match_162 C0 N σ x4 _ _ _ hP hD hS (lv_sub hl [0, 3] rfl) h
    · rw [if_neg hc1] at h
      refine lv_iload hx hb dX5_match_74 (lv_at hl 3 rfl) ?_
      refine lv_if_eq (tgt := 162) hx hb dX5_match_76 (by decide) (fun hc2 => ?_) (fun hc2 => ?_)
      · rw [if_pos hc2] at h
        exact k_X5_match_162 C0 N σ x4 _ _ _ hP hD hS (lv_sub hl [0, 3] rfl) h
      · rw [if_neg hc2] at h
        refine lv_aload_n hx hb dX5_match_79 rfl (lv_at hl 0 rfl) ?_
        refine va_get (D := D) (ci := 5) (v := .ref (a5 21)) (C := RX5) (T := TX5) (N := 30) hx hb hts in_X5_match_X5 hown hK hP 0 rfl rfl 20 (by decide) (hts (.fieldLink RX5 55 "TermLoomModel" "symbol" "[I") (by decide +kernel)) (fun _ h9 => h9) rfl dX5_match_80 ?_
        refine lv_iload hx hb dX5_match_83 (lv_at hl 4 rfl) ?_
        by_cases hi : x5 < 0 ∨ 34100 ≤ (x5).toNatClampNeg
        · rw [if_pos hi] at h; exact no h
        rw [if_neg hi] at h
        refine va_iald (f := (σ 20)) hx hb hK hP 14 0 rfl rfl (i := x5) hi dX5_match_85 ?_
        refine lv_if_lt (tgt := 106) hx hb dX5_match_86 (by decide) (fun hc3 => ?_) (fun hc3 => ?_)
        · rw [if_pos hc3] at h
          exact k_X5_match_106 C0 N (f_X5_match_61 N n) ih σ x1 x3 x5 _ _ _ hP hD hS (lv_sub hl [0, 1, 2, 4] rfl) h
        · rw [if_neg hc3] at h
          refine lv_aload_n hx hb dX5_match_89 rfl (lv_at hl 0 rfl) ?_
          refine va_get (D := D) (ci := 5) (v := .ref (a5 21)) (C := RX5) (T := TX5) (N := 30) hx hb hts in_X5_match_X5 hown hK hP 0 rfl rfl 20 (by decide) (hts (.fieldLink RX5 55 "TermLoomModel" "symbol" "[I") (by decide +kernel)) (fun _ h9 => h9) rfl dX5_match_90 ?_
          refine lv_iload hx hb dX5_match_93 (lv_at hl 4 rfl) ?_
          by_cases hi : x5 < 0 ∨ 34100 ≤ (x5).toNatClampNeg
          · rw [if_pos hi] at h; exact no h
          rw [if_neg hi] at h
          refine va_iald (f := (σ 20)) hx hb hK hP 14 0 rfl rfl (i := x5) hi dX5_match_95 ?_
          refine lv_iconst (v := 4) hx hb dX5_match_96 rfl ?_
          refine lv_irem hx hb dX5_match_97 (by decide) ?_
          refine lv_iconst (v := 1) hx hb dX5_match_98 rfl ?_
          refine lv_icmp_ne (tgt := 106) hx hb dX5_match_99 (by decide) (fun hc4 => ?_) (fun hc4 => ?_)
          · rw [if_neg hc4] at h
            exact k_X5_match_106 C0 N (f_X5_match_61 N n) ih σ x1 x3 x5 _ _ _ hP hD hS (lv_sub hl [0, 1, 2, 4] rfl) h
          · rw [if_pos hc4] at h
            refine lv_iconst (v := 1) hx hb dX5_match_102 rfl ?_
            refine lv_goto (tgt := 107) hx hb dX5_match_103 (by decide) ?_
            exact k_X5_match_107 C0 N (f_X5_match_61 N n) ih σ x1 x3 x5 1 _ _ _ hP hD hS (lv_sub hl [0, 1, 2, 4] rfl) h
set_option maxHeartbeats 4000000 in
set_option maxRecDepth 100000 in
theorem k_X5_match_22 {p : Program} {l : Launch} {e : Env} {s : State} {m : MethodId} {args : Array Value} {below : List Frame} {meth : Method} {c : Code} {D : va_G} {cI cZ : ClassId} {a5 : Nat → Nat} {A : Nat → Prop} {r : Int32} {u1 : St} (C0 : mB p s m args meth c D cI cZ A cX5_match 8 (some .int) wsX5_match RX5) (N : Nat) : KP_X5_match_22 p l e s m args below meth c D cI cZ a5 A r u1 (f_X5_match_22 N) := by
  obtain ⟨hx, hb, hml, hr, hown, hts, hlocks, hA, hK, hN⟩ := id C0
  intro σ x1 x2 s1 H locs ls hP hD hS hl h
  unfold f_X5_match_22 at h
  refine va_put (D := D) (ci := 5) (v := .int s1) (ty := .int) (C := RX5) (T := TX5) (N := 30) hx hb hts in_X5_match_X5 tyX5 tyX5_ok nmX5 hown hK hP hD hS 0 rfl rfl 0 (by decide) (hts (.fieldLink RX5 85 "TermLoomModel" "code" "I") (by decide +kernel)) (fun _ h9 => h9) rfl (by decide +kernel) rfl rfl (Nat.le_of_ble_eq_true rfl) dX5_match_22 (fun H locs hP hD hS => ?_)
  obtain ⟨σ1, eσ1, h⟩ := bn h
  have hP : va_P D vwCl (wX5 a5 cI cZ σ1) H := by rw [eσ1]; exact hP
  have hD : va_D A (wX5 a5 cI cZ σ1) := by rw [eσ1]; exact hD
  refine lv_aload_n hx hb dX5_match_25 rfl (lv_at hl 0 rfl) ?_
  refine va_get (D := D) (ci := 5) (v := .int (σ1 0 0)) (C := RX5) (T := TX5) (N := 30) hx hb hts in_X5_match_X5 hown hK hP 0 rfl rfl 0 (by decide) (hts (.fieldLink RX5 85 "TermLoomModel" "code" "I") (by decide +kernel)) (fun _ h9 => h9) rfl dX5_match_26 ?_
  refine lv_if_le (tgt := 34) hx hb dX5_match_29 (by decide) (fun hc2 => ?_) (fun hc2 => ?_)
  · rw [if_pos hc2] at h
    refine lv_aload_n hx hb dX5_match_34 rfl (lv_at hl 0 rfl) ?_
    obtain ⟨q3, hq3, h⟩ := ob h
    refine mc_v (ws' := wX5 a5 cI cZ q3) (wr := ([] : va_W)) [0, 1, 2, 3, 4, 5, 6, 7, 8, 9, 10, 11, 12, 13, 14, 15, 16, 17, 18, 19, 20, 21, 22] [] [0, 1, 2, 3, 4, 5, 6, 7, 8, 9, 10, 11, 12, 13, 14, 15, 16, 17, 18, 19, 20, 21, 22] (va_runV (As := []) (rest := []) ⟨hx, hb, hml, hown, hts⟩ (c_X5_freeTypes l D cI cZ a5 N σ1 q3 hq3 H.size) (cwV 0 hts gX5_match_X5_freeTypes rfl rfl rfl (by decide +kernel) ⟨Nat.le_of_ble_eq_true rfl, Nat.le_of_ble_eq_true rfl⟩) (pV [0, 1, 2, 3, 4, 5, 6, 7, 8, 9, 10, 11, 12, 13, 14, 15, 16, 17, 18, 19, 20, 21, 22] hP hD hK hN rfl rfl rfl rfl) rfl rfl hl.1 rfl (lv_room (Nat.le_of_ble_eq_true rfl)) dX5_match_35 ⟨Nat.le_of_ble_eq_true rfl, Nat.le_of_ble_eq_true rfl⟩) hP hD hS hA rfl rfl rfl (by decide) rfl rfl (fun H locs hP hD hS => ?_)
    refine lv_aload_n hx hb dX5_match_38 rfl (lv_at hl 0 rfl) ?_
    refine lv_iconst (v := 0) hx hb dX5_match_39 rfl ?_
    refine va_put (D := D) (ci := 5) (v := .int 0) (ty := .int) (C := RX5) (T := TX5) (N := 30) hx hb hts in_X5_match_X5 tyX5 tyX5_ok nmX5 hown hK hP hD hS 0 rfl rfl 26 (by decide) (hts (.fieldLink RX5 73 "TermLoomModel" "found" "I") (by decide +kernel)) (fun _ h9 => h9) rfl (by decide +kernel) rfl rfl (Nat.le_of_ble_eq_true rfl) dX5_match_40 (fun H locs hP hD hS => ?_)
    obtain ⟨σ4, eσ4, h⟩ := bn h
    have hP : va_P D vwCl (wX5 a5 cI cZ σ4) H := by rw [eσ4]; exact hP
    have hD : va_D A (wX5 a5 cI cZ σ4) := by rw [eσ4]; exact hD
    refine lv_aload_n hx hb dX5_match_43 rfl (lv_at hl 0 rfl) ?_
    refine va_get (D := D) (ci := 5) (v := .ref (a5 20)) (C := RX5) (T := TX5) (N := 30) hx hb hts in_X5_match_X5 hown hK hP 0 rfl rfl 19 (by decide) (hts (.fieldLink RX5 51 "TermLoomModel" "begin" "[I") (by decide +kernel)) (fun _ h9 => h9) rfl dX5_match_44 ?_
    refine lv_iload_n hx hb dX5_match_47 rfl (lv_at hl 2 rfl) ?_
    by_cases hi : x2 < 0 ∨ 4201 ≤ (x2).toNatClampNeg
    · rw [if_pos hi] at h; exact no h
    rw [if_neg hi] at h
    refine va_iald (f := (σ4 19)) hx hb hK hP 13 0 rfl rfl (i := x2) hi dX5_match_48 ?_
    refine lv_istore_n (lv' := [(3, .int (σ4 19 (x2).toNatClampNeg)), (0, .ref (a5 0)), (1, .int x1), (2, .int x2)]) hx hb dX5_match_49 rfl hl (by decide) rfl (fun ls hl => ?_)
    refine lv_iconst (v := 1) hx hb dX5_match_50 rfl ?_
    refine lv_istore (lv' := [(4, .int 1), (3, .int (σ4 19 (x2).toNatClampNeg)), (0, .ref (a5 0)), (1, .int x1), (2, .int x2)]) hx hb dX5_match_51 hl (by decide) rfl (fun ls hl => ?_)
    refine lv_aload_n hx hb dX5_match_53 rfl (lv_at hl 2 rfl) ?_
    refine va_get (D := D) (ci := 5) (v := .ref (a5 20)) (C := RX5) (T := TX5) (N := 30) hx hb hts in_X5_match_X5 hown hK hP 0 rfl rfl 19 (by decide) (hts (.fieldLink RX5 51 "TermLoomModel" "begin" "[I") (by decide +kernel)) (fun _ h9 => h9) rfl dX5_match_54 ?_
    refine lv_iload_n hx hb dX5_match_57 rfl (lv_at hl 3 rfl) ?_
    by_cases hi : x1 < 0 ∨ 4201 ≤ (x1).toNatClampNeg
    · rw [if_pos hi] at h; exact no h
    rw [if_neg hi] at h
    refine va_iald (f := (σ4 19)) hx hb hK hP 13 0 rfl rfl (i := x1) hi dX5_match_58 ?_
    refine lv_istore (lv' := [(5, .int (σ4 19 (x1).toNatClampNeg)), (4, .int 1), (3, .int (σ4 19 (x2).toNatClampNeg)), (0, .ref (a5 0)), (1, .int x1), (2, .int x2)]) hx hb dX5_match_59 hl (by decide) rfl (fun ls hl => ?_)
    exact k_X5_match_61 C0 N N σ4 x1 (σ4 19 (x2).toNatClampNeg) 1 (σ4 19 (x1).toNatClampNeg) _ _ _ hP hD hS (lv_sub hl [3, 4, 2, 1, 0] rfl) h
  · rw [if_neg hc2] at h
    refine lv_iconst (v := 0) hx hb dX5_match_32 rfl ?_
    obtain ⟨rfl, rfl⟩ := so h
    exact ret_i C0 hP hD hS dX5_match_33
set_option maxHeartbeats 4000000 in
set_option maxRecDepth 100000 in
theorem k_X5_match_21 {p : Program} {l : Launch} {e : Env} {s : State} {m : MethodId} {args : Array Value} {below : List Frame} {meth : Method} {c : Code} {D : va_G} {cI cZ : ClassId} {a5 : Nat → Nat} {A : Nat → Prop} {r : Int32} {u1 : St} (C0 : mB p s m args meth c D cI cZ A cX5_match 8 (some .int) wsX5_match RX5) (N : Nat) : KP_X5_match_21 p l e s m args below meth c D cI cZ a5 A r u1 (f_X5_match_21 N) := by
  obtain ⟨hx, hb, hml, hr, hown, hts, hlocks, hA, hK, hN⟩ := id C0
  intro σ x1 x2 H locs ls hP hD hS hl h
  unfold f_X5_match_21 at h
  refine lv_iconst (v := 1) hx hb dX5_match_21 rfl ?_
  exact k_X5_match_22 C0 N σ x1 x2 1 _ _ _ hP hD hS (lv_sub hl [0, 1, 2] rfl) h
set_option maxHeartbeats 4000000 in
set_option maxRecDepth 100000 in
theorem c_X5_match (l : Launch) (D : va_G) (cI cZ : ClassId) (a5 : Nat → Nat) (N : Nat) (σ : St) (x1 x2 : Int32) : MI l yX5_match wsX5_match ({ frames := 3, cells := 0, slots := 0, locals := 71 } : Room) D cI cZ (wX5 a5 cI cZ) [.ref (a5 0), .int x1, .int x2] σ (f_X5_match N σ x1 x2) := by
  refine MI.of (cc := cX5_match) (maxL := 8) (ret := (some .int)) (own := RX5) (by decide) rfl rfl (Nat.le_of_ble_eq_true rfl) ?_
  intro r u1 h p e s m args below meth c A C0 H locs ls hP hD hS hl
  obtain ⟨hx, hb, hml, hr, hown, hts, hlocks, hA, hK, hN⟩ := id C0
  have hl : lv_has ls 8 [(0, .ref (a5 0)), (1, .int x1), (2, .int x2)] := hl
  unfold f_X5_match at h
  refine lv_aload_n hx hb dX5_match_0 rfl (lv_at hl 0 rfl) ?_
  refine lv_aload_n hx hb dX5_match_1 rfl (lv_at hl 0 rfl) ?_
  refine lv_iload_n hx hb dX5_match_2 rfl (lv_at hl 1 rfl) ?_
  obtain ⟨q1, hq1, h⟩ := ob h
  refine mc_i (ws' := wX5 a5 cI cZ q1.2) (wr := ([] : va_W)) [0, 1, 2, 3, 4, 5, 6, 7, 8, 9, 10, 11, 12, 13, 14, 15, 16, 17, 18, 19, 20, 21, 22] [] [0, 1, 2, 3, 4, 5, 6, 7, 8, 9, 10, 11, 12, 13, 14, 15, 16, 17, 18, 19, 20, 21, 22] (va_runV (As := [.int x1]) (rest := [.ref (a5 0)]) ⟨hx, hb, hml, hown, hts⟩ (c_X5_isTerm l D cI cZ a5 N σ x1 q1.1 q1.2 hq1 H.size) (cwV 1 hts gX5_match_X5_isTerm rfl rfl rfl (by decide +kernel) ⟨Nat.le_of_ble_eq_true rfl, Nat.le_of_ble_eq_true rfl⟩) (pV [0, 1, 2, 3, 4, 5, 6, 7, 8, 9, 10, 11, 12, 13, 14, 15, 16, 17, 18, 19, 20, 21, 22] hP hD hK hN rfl rfl rfl rfl) rfl rfl hl.1 rfl (lv_room (Nat.le_of_ble_eq_true rfl)) dX5_match_3 ⟨Nat.le_of_ble_eq_true rfl, Nat.le_of_ble_eq_true rfl⟩) hP hD hS hA rfl rfl rfl (by decide) rfl rfl (fun H locs hP hD hS => ?_)
  refine lv_if_eq (tgt := 21) hx hb dX5_match_6 (by decide) (fun hc2 => ?_) (fun hc2 => ?_)
  · rw [if_pos hc2] at h
    exact k_X5_match_21 C0 N q1.2 x1 x2 _ _ _ hP hD hS (lv_sub hl [0, 1, 2] rfl) h
  · rw [if_neg hc2] at h
    refine lv_aload_n hx hb dX5_match_9 rfl (lv_at hl 0 rfl) ?_
    refine lv_iload_n hx hb dX5_match_10 rfl (lv_at hl 2 rfl) ?_
    obtain ⟨q3, hq3, h⟩ := ob h
    refine mc_i (ws' := wX5 a5 cI cZ q3.2) (wr := ([] : va_W)) [0, 1, 2, 3, 4, 5, 6, 7, 8, 9, 10, 11, 12, 13, 14, 15, 16, 17, 18, 19, 20, 21, 22] [] [0, 1, 2, 3, 4, 5, 6, 7, 8, 9, 10, 11, 12, 13, 14, 15, 16, 17, 18, 19, 20, 21, 22] (va_runV (As := [.int x2]) (rest := [.ref (a5 0)]) ⟨hx, hb, hml, hown, hts⟩ (c_X5_isTerm l D cI cZ a5 N q1.2 x2 q3.1 q3.2 hq3 H.size) (cwV 1 hts gX5_match_X5_isTerm rfl rfl rfl (by decide +kernel) ⟨Nat.le_of_ble_eq_true rfl, Nat.le_of_ble_eq_true rfl⟩) (pV [0, 1, 2, 3, 4, 5, 6, 7, 8, 9, 10, 11, 12, 13, 14, 15, 16, 17, 18, 19, 20, 21, 22] hP hD hK hN rfl rfl rfl rfl) rfl rfl hl.1 rfl (lv_room (Nat.le_of_ble_eq_true rfl)) dX5_match_11 ⟨Nat.le_of_ble_eq_true rfl, Nat.le_of_ble_eq_true rfl⟩) hP hD hS hA rfl rfl rfl (by decide) rfl rfl (fun H locs hP hD hS => ?_)
    refine lv_if_eq (tgt := 21) hx hb dX5_match_14 (by decide) (fun hc4 => ?_) (fun hc4 => ?_)
    · rw [if_pos hc4] at h
      exact k_X5_match_21 C0 N q3.2 x1 x2 _ _ _ hP hD hS (lv_sub hl [0, 1, 2] rfl) h
    · rw [if_neg hc4] at h
      refine lv_iconst (v := 0) hx hb dX5_match_17 rfl ?_
      refine lv_goto (tgt := 22) hx hb dX5_match_18 (by decide) ?_
      exact k_X5_match_22 C0 N q3.2 x1 x2 0 _ _ _ hP hD hS (lv_sub hl [0, 1, 2] rfl) h
