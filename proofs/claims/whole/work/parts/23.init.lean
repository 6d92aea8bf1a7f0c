def f_J7_fill_53178_5 (N : Nat) (len : Nat) : Nat → (Nat → Int32) → Int32 → Int32 → Int32 → Option ((Nat → Int32))
  | 0, _, _, _, _ => none
  | n + 1, g, x1, x2, x3 => if x3 ≤ x2 then some g else if x2 < 0 ∨ len ≤ (x2).toNatClampNeg then none else bnd (upd g (x2).toNatClampNeg x1) (fun g2 => f_J7_fill_53178_5 N len n g2 x1 (x2 + 1) x3)
def f_J7_fill_53178 (N : Nat) (len : Nat) (g : (Nat → Int32)) (x1 : Int32) : Option ((Nat → Int32)) := f_J7_fill_53178_5 N len N g x1 0 (Int32.ofNat len)
abbrev KP_J7_fill_53178_5 (p : Program) (l : Launch) (e : Env) (s : State) (m : MethodId) (args : Array Value) (below : List Frame) (meth : Method) (c : Code) (D : va_G) (cI cZ : ClassId) (q len : Nat) (A : Nat → Prop) (u1 : (Nat → Int32)) (K : (Nat → Int32) → Int32 → Int32 → Int32 → Option ((Nat → Int32))) : Prop := ∀ (g : (Nat → Int32)) (x1 x2 x3 : Int32) (H : Heap) (locs : List Loc) (ls : Array Slot), va_P D vwCl (wAf q len cI g) H → va_D A (wAf q len cI g) → va_S A s.heap H locs → lv_has ls 4 [(0, .ref (q)), (1, .int x1), (2, .int x2), (3, .int x3)] → K g x1 x2 x3 = some u1 → W p l e ({ frames := 0, cells := 0, slots := 0, locals := 0 } : Room) s m args below meth c H locs 0 0 (QV below args s D cI cZ (wAf q len cI) A u1) (F0 m 5 ls [])
set_option maxHeartbeats 4000000 in
set_option maxRecDepth 100000 in
theorem k_J7_fill_53178_5 {p : Program} {l : Launch} {e : Env} {s : State} {m : MethodId} {args : Array Value} {below : List Frame} {meth : Method} {c : Code} {D : va_G} {cI cZ : ClassId} {q len : Nat} {A : Nat → Prop} {u1 : (Nat → Int32)} (C0 : mB p s m args meth c D cI cZ A cJ7_fill_53178 4 none wsJ7_fill_53178 RJ7) (N : Nat) : ∀ n : Nat, KP_J7_fill_53178_5 p l e s m args below meth c D cI cZ q len A u1 (f_J7_fill_53178_5 N len n) := by
  obtain ⟨hx, hb, hml, hr, hown, hts, hlocks, hA, hK, hN⟩ := id C0
  intro n
  induction n with
  | zero =>
    intro g x1 x2 x3 H locs ls hP hD hS hl h
    exact no (show (none : Option ((Nat → Int32))) = _ from h)
  | succ n ih =>
    intro g x1 x2 x3 H locs ls hP hD hS hl h
    rw [f_J7_fill_53178_5] at h
    refine lv_iload_n hx hb dJ7_fill_53178_5 rfl (lv_at hl 2 rfl) ?_
    refine lv_iload_n hx hb dJ7_fill_53178_6 rfl (lv_at hl 3 rfl) ?_
    refine lv_icmp_ge (tgt := 20) hx hb dJ7_fill_53178_7 (by decide) (fun hc1 => ?_) (fun hc1 => ?_)
    · rw [if_pos hc1] at h
      obtain rfl := so1 h
      exact ret_v C0 hP hD hS dJ7_fill_53178_20
    · rw [if_neg hc1] at h
      refine lv_aload_n hx hb dJ7_fill_53178_10 rfl (lv_at hl 0 rfl) ?_
      refine lv_iload_n hx hb dJ7_fill_53178_11 rfl (lv_at hl 2 rfl) ?_
      refine lv_iload_n hx hb dJ7_fill_53178_12 rfl (lv_at hl 1 rfl) ?_
      by_cases hi : x2 < 0 ∨ len ≤ (x2).toNatClampNeg
      · rw [if_pos hi] at h; exact no h
      rw [if_neg hi] at h
      refine va_iast (f := g) hx hb hK hP hD hS 0 0 rfl rfl (i := x2) (x := x1) hi dJ7_fill_53178_13 (fun H locs hP hD hS => ?_)
      obtain ⟨g2, eg2, h⟩ := bn h
      have hP : va_P D vwCl (wAf q len cI g2) H := by rw [eg2]; exact hP
      have hD : va_D A (wAf q len cI g2) := by rw [eg2]; exact hD
      refine lv_iinc (v := (x2 + 1)) (lv' := [(2, .int (x2 + 1)), (0, .ref (q)), (1, .int x1), (3, .int x3)]) hx hb dJ7_fill_53178_14 hl (k := 2) rfl rfl (by decide) rfl (fun ls hl => ?_)
      refine lv_goto (tgt := 5) hx hb dJ7_fill_53178_17 (by decide) ?_
      exact ih g2 x1 (x2 + 1) x3 _ _ _ hP hD hS (lv_sub hl [1, 2, 0, 3] rfl) h
set_option maxHeartbeats 4000000 in
set_option maxRecDepth 100000 in
theorem c_J7_fill_53178 (l : Launch) (D : va_G) (cI cZ : ClassId) (q len : Nat) (N : Nat) (g : (Nat → Int32)) (x1 : Int32) : MV l yJ7_fill_53178 wsJ7_fill_53178 ({ frames := 0, cells := 0, slots := 0, locals := 0 } : Room) D cI cZ (wAf q len cI) [.ref (q), .int x1] g (f_J7_fill_53178 N len g x1) := by
  refine MV.of (cc := cJ7_fill_53178) (maxL := 4) (ret := none) (own := RJ7) (by decide) rfl rfl (Nat.le_of_ble_eq_true rfl) ?_
  intro u1 h p e s m args below meth c A C0 H locs ls hP hD hS hl
  obtain ⟨hx, hb, hml, hr, hown, hts, hlocks, hA, hK, hN⟩ := id C0
  have hl : lv_has ls 4 [(0, .ref (q)), (1, .int x1)] := hl
  unfold f_J7_fill_53178 at h
  refine lv_iconst (v := 0) hx hb dJ7_fill_53178_0 rfl ?_
  refine lv_istore_n (lv' := [(2, .int 0), (0, .ref (q)), (1, .int x1)]) hx hb dJ7_fill_53178_1 rfl hl (by decide) rfl (fun ls hl => ?_)
  refine lv_aload_n hx hb dJ7_fill_53178_2 rfl (lv_at hl 1 rfl) ?_
  refine va_alen (v := Int32.ofNat len) hx hb hK hP 0 0 rfl rfl rfl dJ7_fill_53178_3 ?_
  refine lv_istore_n (lv' := [(3, .int (Int32.ofNat len)), (2, .int 0), (0, .ref (q)), (1, .int x1)]) hx hb dJ7_fill_53178_4 rfl hl (by decide) rfl (fun ls hl => ?_)
  exact k_J7_fill_53178_5 C0 N N g x1 0 (Int32.ofNat len) _ _ _ hP hD hS (lv_sub hl [2, 3, 1, 0] rfl) h

theorem in_X3_init_X3 : ∀ w ∈ u_ws RX3 TX3 6, w ∈ wsX3_init := by decide +kernel
set_option maxHeartbeats 4000000 in
set_option maxRecDepth 100000 in
theorem c_X3_init (l : Launch) (D : va_G) (cI cZ : ClassId) (q : Nat) : MN l yX3_init wsX3_init ({ frames := 1, cells := 2, slots := 242, locals := 12 } : Room) D cI cZ q (.inr (3, [.null, .null, .int 0, .int 0, .int 0, .int 0])) (fun a3 : Nat → Nat => wX3 a3 cI cZ z0) (fun a3 => a3 0 = q) 2 242 := by
  refine MN.of (cc := cX3_init) (maxL := 1) (own := RX3) (by decide) rfl rfl rfl (Nat.le_of_ble_eq_true rfl) ?_
  intro p e s m args below meth c A C0 hin H locs ls hP hD hS hl
  obtain ⟨hx, hb, hml, hr, hown, hts, hlocks, hA, hK, hN⟩ := id C0
  refine lv_aload_n hx hb dX3_init_0 rfl (lv_at hl 0 rfl) ?_
  refine W.objInit hx hb hown (hts (.methodLink RX3 3 objectInit) (by decide +kernel)) (hts (.instanceMethod objectInit) (by decide +kernel)) (hts (.code objectInit ⟨#[0xb1]⟩ 1 none) (by decide +kernel)) rfl (by rw [hml]; exact hl.1) rfl dX3_init_1 (Nat.le_of_ble_eq_true rfl) (Nat.le_of_ble_eq_true rfl) ?_
  refine W.eq (g2 := F0 m 4 ls []) rfl ?_
  refine lv_aload_n hx hb dX3_init_4 rfl (lv_at hl 0 rfl) ?_
  refine lv_bipush (v := 121) hx hb dX3_init_5 rfl ?_
  refine va_newa (atype := .int) (a0 := (121, .inl (fun _ => 0))) (N' := 121) hx hb (hts (.arrayClass .int) (by decide +kernel)) rfl hK hP hD hS hA (fun _ => rfl) (by decide) rfl (by decide) (Nat.le_of_ble_eq_true rfl) (Nat.le_of_ble_eq_true rfl) dX3_init_7 (fun q1 cA H hK9 hP hD hS => ?_)
  obtain rfl := cA_int hK9
  have hP : va_P D vwCl ([(q, .inr (3, [.null, .null, .int 0, .int 0, .int 0, .int 0])), (q1, .inl (cI, 121, .inl (fun _ => 0)))]) H := hP
  have hD : va_D A ([(q, .inr (3, [.null, .null, .int 0, .int 0, .int 0, .int 0])), (q1, .inl (cI, 121, .inl (fun _ => 0)))]) := hD
  refine va_putF (D := D) (ci := 3) (v := .ref q1) (ty := .array .int) (C := RX3) (T := TX3) (N := 6) hx hb hts in_X3_init_X3 tyX3 tyX3_ok nmX3 hown hK hP hD hS 0 rfl rfl 0 (by decide) (hts (.fieldLink RX3 9 "TermLoom$Walk" "depths" "[I") (by decide +kernel)) (fun _ h9 => h9) rfl hin rfl (by decide +kernel) rfl rfl (Nat.le_of_ble_eq_true rfl) dX3_init_9 (fun H locs hP hD hS => ?_)
  have hP : va_P D vwCl ([(q, .inr (3, [.ref q1, .null, .int 0, .int 0, .int 0, .int 0])), (q1, .inl (cI, 121, .inl (fun _ => 0)))]) H := hP
  have hD : va_D A ([(q, .inr (3, [.ref q1, .null, .int 0, .int 0, .int 0, .int 0])), (q1, .inl (cI, 121, .inl (fun _ => 0)))]) := hD
  refine lv_aload_n hx hb dX3_init_12 rfl (lv_at hl 0 rfl) ?_
  refine lv_bipush (v := 121) hx hb dX3_init_13 rfl ?_
  refine va_newa (atype := .int) (a0 := (121, .inl (fun _ => 0))) (N' := 121) hx hb (hts (.arrayClass .int) (by decide +kernel)) rfl hK hP hD hS hA (fun _ => rfl) (by decide) rfl (by decide) (Nat.le_of_ble_eq_true rfl) (Nat.le_of_ble_eq_true rfl) dX3_init_15 (fun q2 cA H hK9 hP hD hS => ?_)
  obtain rfl := cA_int hK9
  have hP : va_P D vwCl ([(q, .inr (3, [.ref q1, .null, .int 0, .int 0, .int 0, .int 0])), (q1, .inl (cI, 121, .inl (fun _ => 0))), (q2, .inl (cI, 121, .inl (fun _ => 0)))]) H := hP
  have hD : va_D A ([(q, .inr (3, [.ref q1, .null, .int 0, .int 0, .int 0, .int 0])), (q1, .inl (cI, 121, .inl (fun _ => 0))), (q2, .inl (cI, 121, .inl (fun _ => 0)))]) := hD
  refine va_putF (D := D) (ci := 3) (v := .ref q2) (ty := .array .int) (C := RX3) (T := TX3) (N := 6) hx hb hts in_X3_init_X3 tyX3 tyX3_ok nmX3 hown hK hP hD hS 0 rfl rfl 1 (by decide) (hts (.fieldLink RX3 15 "TermLoom$Walk" "binders" "[I") (by decide +kernel)) (fun _ h9 => h9) rfl hin rfl (by decide +kernel) rfl rfl (Nat.le_of_ble_eq_true rfl) dX3_init_17 (fun H locs hP hD hS => ?_)
  have hP : va_P D vwCl ([(q, .inr (3, [.ref q1, .ref q2, .int 0, .int 0, .int 0, .int 0])), (q1, .inl (cI, 121, .inl (fun _ => 0))), (q2, .inl (cI, 121, .inl (fun _ => 0)))]) H := hP
  have hD : va_D A ([(q, .inr (3, [.ref q1, .ref q2, .int 0, .int 0, .int 0, .int 0])), (q1, .inl (cI, 121, .inl (fun _ => 0))), (q2, .inl (cI, 121, .inl (fun _ => 0)))]) := hD
  exact ret_n (adL [q, q1, q2]) C0 rfl hP hD hS dX3_init_20 (by decide) (by decide)

theorem in_X1_init_X1 : ∀ w ∈ u_ws RX1 TX1 8, w ∈ wsX1_init := by decide +kernel
theorem in_X1_init_X3 : ∀ w ∈ u_ws RX3 TX3 6, w ∈ wsX1_init := by decide +kernel
set_option maxHeartbeats 4000000 in
set_option maxRecDepth 100000 in
theorem c_X1_init (l : Launch) (D : va_G) (cI cZ : ClassId) (q : Nat) : MN l yX1_init wsX1_init ({ frames := 2, cells := 7, slots := 61273, locals := 32 } : Room) D cI cZ q (.inr (1, [.null, .null, .null, .null, .null, .int 0, .int 0, .int 0])) (fun u : (Nat → Nat) × (Nat → Nat) => wX1 u.1 u.2 cI cZ (z0, z0)) (fun u => u.1 0 = q) 7 61273 := by
  refine MN.of (cc := cX1_init) (maxL := 1) (own := RX1) (by decide) rfl rfl rfl (Nat.le_of_ble_eq_true rfl) ?_
  intro p e s m args below meth c A C0 hin H locs ls hP hD hS hl
  obtain ⟨hx, hb, hml, hr, hown, hts, hlocks, hA, hK, hN⟩ := id C0
  refine lv_aload_n hx hb dX1_init_0 rfl (lv_at hl 0 rfl) ?_
  refine W.objInit hx hb hown (hts (.methodLink RX1 3 objectInit) (by decide +kernel)) (hts (.instanceMethod objectInit) (by decide +kernel)) (hts (.code objectInit ⟨#[0xb1]⟩ 1 none) (by decide +kernel)) rfl (by rw [hml]; exact hl.1) rfl dX1_init_1 (Nat.le_of_ble_eq_true rfl) (Nat.le_of_ble_eq_true rfl) ?_
  refine W.eq (g2 := F0 m 4 ls []) rfl ?_
  refine lv_aload_n hx hb dX1_init_4 rfl (lv_at hl 0 rfl) ?_
  refine lv_sipush (v := 30000) hx hb dX1_init_5 rfl ?_
  refine va_newa (atype := .int) (a0 := (30000, .inl (fun _ => 0))) (N' := 30000) hx hb (hts (.arrayClass .int) (by decide +kernel)) rfl hK hP hD hS hA (fun _ => rfl) (by decide) rfl (by decide) (Nat.le_of_ble_eq_true rfl) (Nat.le_of_ble_eq_true rfl) dX1_init_8 (fun q1 cA H hK9 hP hD hS => ?_)
  obtain rfl := cA_int hK9
  have hP : va_P D vwCl ([(q, .inr (1, [.null, .null, .null, .null, .null, .int 0, .int 0, .int 0])), (q1, .inl (cI, 30000, .inl (fun _ => 0)))]) H := hP
  have hD : va_D A ([(q, .inr (1, [.null, .null, .null, .null, .null, .int 0, .int 0, .int 0])), (q1, .inl (cI, 30000, .inl (fun _ => 0)))]) := hD
  refine va_putF (D := D) (ci := 1) (v := .ref q1) (ty := .array .int) (C := RX1) (T := TX1) (N := 8) hx hb hts in_X1_init_X1 tyX1 tyX1_ok nmX1 hown hK hP hD hS 0 rfl rfl 0 (by decide) (hts (.fieldLink RX1 9 "TermLoom$TermStore" "codes" "[I") (by decide +kernel)) (fun _ h9 => h9) rfl hin rfl (by decide +kernel) rfl rfl (Nat.le_of_ble_eq_true rfl) dX1_init_10 (fun H locs hP hD hS => ?_)
  have hP : va_P D vwCl ([(q, .inr (1, [.ref q1, .null, .null, .null, .null, .int 0, .int 0, .int 0])), (q1, .inl (cI, 30000, .inl (fun _ => 0)))]) H := hP
  have hD : va_D A ([(q, .inr (1, [.ref q1, .null, .null, .null, .null, .int 0, .int 0, .int 0])), (q1, .inl (cI, 30000, .inl (fun _ => 0)))]) := hD
  refine lv_aload_n hx hb dX1_init_13 rfl (lv_at hl 0 rfl) ?_
  refine lv_sipush (v := 30000) hx hb dX1_init_14 rfl ?_
  refine va_newa (atype := .int) (a0 := (30000, .inl (fun _ => 0))) (N' := 30000) hx hb (hts (.arrayClass .int) (by decide +kernel)) rfl hK hP hD hS hA (fun _ => rfl) (by decide) rfl (by decide) (Nat.le_of_ble_eq_true rfl) (Nat.le_of_ble_eq_true rfl) dX1_init_17 (fun q2 cA H hK9 hP hD hS => ?_)
  obtain rfl := cA_int hK9
  have hP : va_P D vwCl ([(q, .inr (1, [.ref q1, .null, .null, .null, .null, .int 0, .int 0, .int 0])), (q1, .inl (cI, 30000, .inl (fun _ => 0))), (q2, .inl (cI, 30000, .inl (fun _ => 0)))]) H := hP
  have hD : va_D A ([(q, .inr (1, [.ref q1, .null, .null, .null, .null, .int 0, .int 0, .int 0])), (q1, .inl (cI, 30000, .inl (fun _ => 0))), (q2, .inl (cI, 30000, .inl (fun _ => 0)))]) := hD
  refine va_putF (D := D) (ci := 1) (v := .ref q2) (ty := .array .int) (C := RX1) (T := TX1) (N := 8) hx hb hts in_X1_init_X1 tyX1 tyX1_ok nmX1 hown hK hP hD hS 0 rfl rfl 1 (by decide) (hts (.fieldLink RX1 15 "TermLoom$TermStore" "symbolTypes" "[I") (by decide +kernel)) (fun _ h9 => h9) rfl hin rfl (by decide +kernel) rfl rfl (Nat.le_of_ble_eq_true rfl) dX1_init_19 (fun H locs hP hD hS => ?_)
  have hP : va_P D vwCl ([(q, .inr (1, [.ref q1, .ref q2, .null, .null, .null, .int 0, .int 0, .int 0])), (q1, .inl (cI, 30000, .inl (fun _ => 0))), (q2, .inl (cI, 30000, .inl (fun _ => 0)))]) H := hP
  have hD : va_D A ([(q, .inr (1, [.ref q1, .ref q2, .null, .null, .null, .int 0, .int 0, .int 0])), (q1, .inl (cI, 30000, .inl (fun _ => 0))), (q2, .inl (cI, 30000, .inl (fun _ => 0)))]) := hD
  refine lv_aload_n hx hb dX1_init_22 rfl (lv_at hl 0 rfl) ?_
  refine lv_sipush (v := 513) hx hb dX1_init_23 rfl ?_
  refine va_newa (atype := .int) (a0 := (513, .inl (fun _ => 0))) (N' := 513) hx hb (hts (.arrayClass .int) (by decide +kernel)) rfl hK hP hD hS hA (fun _ => rfl) (by decide) rfl (by decide) (Nat.le_of_ble_eq_true rfl) (Nat.le_of_ble_eq_true rfl) dX1_init_26 (fun q3 cA H hK9 hP hD hS => ?_)
  obtain rfl := cA_int hK9
  have hP : va_P D vwCl ([(q, .inr (1, [.ref q1, .ref q2, .null, .null, .null, .int 0, .int 0, .int 0])), (q1, .inl (cI, 30000, .inl (fun _ => 0))), (q2, .inl (cI, 30000, .inl (fun _ => 0))), (q3, .inl (cI, 513, .inl (fun _ => 0)))]) H := hP
  have hD : va_D A ([(q, .inr (1, [.ref q1, .ref q2, .null, .null, .null, .int 0, .int 0, .int 0])), (q1, .inl (cI, 30000, .inl (fun _ => 0))), (q2, .inl (cI, 30000, .inl (fun _ => 0))), (q3, .inl (cI, 513, .inl (fun _ => 0)))]) := hD
  refine va_putF (D := D) (ci := 1) (v := .ref q3) (ty := .array .int) (C := RX1) (T := TX1) (N := 8) hx hb hts in_X1_init_X1 tyX1 tyX1_ok nmX1 hown hK hP hD hS 0 rfl rfl 2 (by decide) (hts (.fieldLink RX1 18 "TermLoom$TermStore" "starts" "[I") (by decide +kernel)) (fun _ h9 => h9) rfl hin rfl (by decide +kernel) rfl rfl (Nat.le_of_ble_eq_true rfl) dX1_init_28 (fun H locs hP hD hS => ?_)
  have hP : va_P D vwCl ([(q, .inr (1, [.ref q1, .ref q2, .ref q3, .null, .null, .int 0, .int 0, .int 0])), (q1, .inl (cI, 30000, .inl (fun _ => 0))), (q2, .inl (cI, 30000, .inl (fun _ => 0))), (q3, .inl (cI, 513, .inl (fun _ => 0)))]) H := hP
  have hD : va_D A ([(q, .inr (1, [.ref q1, .ref q2, .ref q3, .null, .null, .int 0, .int 0, .int 0])), (q1, .inl (cI, 30000, .inl (fun _ => 0))), (q2, .inl (cI, 30000, .inl (fun _ => 0))), (q3, .inl (cI, 513, .inl (fun _ => 0)))]) := hD
  refine lv_aload_n hx hb dX1_init_31 rfl (lv_at hl 0 rfl) ?_
  refine lv_sipush (v := 512) hx hb dX1_init_32 rfl ?_
  refine va_newa (atype := .int) (a0 := (512, .inl (fun _ => 0))) (N' := 512) hx hb (hts (.arrayClass .int) (by decide +kernel)) rfl hK hP hD hS hA (fun _ => rfl) (by decide) rfl (by decide) (Nat.le_of_ble_eq_true rfl) (Nat.le_of_ble_eq_true rfl) dX1_init_35 (fun q4 cA H hK9 hP hD hS => ?_)
  obtain rfl := cA_int hK9
  have hP : va_P D vwCl ([(q, .inr (1, [.ref q1, .ref q2, .ref q3, .null, .null, .int 0, .int 0, .int 0])), (q1, .inl (cI, 30000, .inl (fun _ => 0))), (q2, .inl (cI, 30000, .inl (fun _ => 0))), (q3, .inl (cI, 513, .inl (fun _ => 0))), (q4, .inl (cI, 512, .inl (fun _ => 0)))]) H := hP
  have hD : va_D A ([(q, .inr (1, [.ref q1, .ref q2, .ref q3, .null, .null, .int 0, .int 0, .int 0])), (q1, .inl (cI, 30000, .inl (fun _ => 0))), (q2, .inl (cI, 30000, .inl (fun _ => 0))), (q3, .inl (cI, 513, .inl (fun _ => 0))), (q4, .inl (cI, 512, .inl (fun _ => 0)))]) := hD
  refine va_putF (D := D) (ci := 1) (v := .ref q4) (ty := .array .int) (C := RX1) (T := TX1) (N := 8) hx hb hts in_X1_init_X1 tyX1 tyX1_ok nmX1 hown hK hP hD hS 0 rfl rfl 3 (by decide) (hts (.fieldLink RX1 21 "TermLoom$TermStore" "heights" "[I") (by decide +kernel)) (fun _ h9 => h9) rfl hin rfl (by decide +kernel) rfl rfl (Nat.le_of_ble_eq_true rfl) dX1_init_37 (fun H locs hP hD hS => ?_)
  have hP : va_P D vwCl ([(q, .inr (1, [.ref q1, .ref q2, .ref q3, .ref q4, .null, .int 0, .int 0, .int 0])), (q1, .inl (cI, 30000, .inl (fun _ => 0))), (q2, .inl (cI, 30000, .inl (fun _ => 0))), (q3, .inl (cI, 513, .inl (fun _ => 0))), (q4, .inl (cI, 512, .inl (fun _ => 0)))]) H := hP
  have hD : va_D A ([(q, .inr (1, [.ref q1, .ref q2, .ref q3, .ref q4, .null, .int 0, .int 0, .int 0])), (q1, .inl (cI, 30000, .inl (fun _ => 0))), (q2, .inl (cI, 30000, .inl (fun _ => 0))), (q3, .inl (cI, 513, .inl (fun _ => 0))), (q4, .inl (cI, 512, .inl (fun _ => 0)))]) := hD
  refine lv_aload_n hx hb dX1_init_40 rfl (lv_at hl 0 rfl) ?_
  refine va_new (ci := 3) (fs := [.null, .null, .int 0, .int 0, .int 0, .int 0]) (C := RX3) (T := TX3) (N := 6) hx hb hts in_X1_init_X3 tyX3 tyX3_ok hown (hts (.classLink RX1 24 RX3) (by decide +kernel)) (hts (.instantiable RX3 6) (by decide +kernel)) (hts (.initialized RX3) (by decide +kernel)) hK hP hD hS hA rfl (fun j hj => by rcases (show j = 0 ∨ j = 1 ∨ j = 2 ∨ j = 3 ∨ j = 4 ∨ j = 5 by omega) with rfl | rfl | rfl | rfl | rfl | rfl <;> rfl) (Nat.le_of_ble_eq_true rfl) (Nat.le_of_ble_eq_true rfl) dX1_init_41 (fun q5 H hP hD hS => ?_)
  have hP : va_P D vwCl ([(q, .inr (1, [.ref q1, .ref q2, .ref q3, .ref q4, .null, .int 0, .int 0, .int 0])), (q1, .inl (cI, 30000, .inl (fun _ => 0))), (q2, .inl (cI, 30000, .inl (fun _ => 0))), (q3, .inl (cI, 513, .inl (fun _ => 0))), (q4, .inl (cI, 512, .inl (fun _ => 0))), (q5, .inr (3, [.null, .null, .int 0, .int 0, .int 0, .int 0]))]) H := hP
  have hD : va_D A ([(q, .inr (1, [.ref q1, .ref q2, .ref q3, .ref q4, .null, .int 0, .int 0, .int 0])), (q1, .inl (cI, 30000, .inl (fun _ => 0))), (q2, .inl (cI, 30000, .inl (fun _ => 0))), (q3, .inl (cI, 513, .inl (fun _ => 0))), (q4, .inl (cI, 512, .inl (fun _ => 0))), (q5, .inr (3, [.null, .null, .int 0, .int 0, .int 0, .int 0]))]) := hD
  refine lv_dup hx hb dX1_init_44 rfl ?_
  refine mn_v (wr := [(q, .inr (1, [.ref q1, .ref q2, .ref q3, .ref q4, .null, .int 0, .int 0, .int 0])), (q1, .inl (cI, 30000, .inl (fun _ => 0))), (q2, .inl (cI, 30000, .inl (fun _ => 0))), (q3, .inl (cI, 513, .inl (fun _ => 0))), (q4, .inl (cI, 512, .inl (fun _ => 0)))]) [5] [0, 1, 2, 3, 4] (va_runIN (As := []) (rest := [.ref q5, .ref q]) ⟨hx, hb, hml, hown, hts⟩ (c_X3_init l D cI cZ q5  H.size) ⟨va_cnB 0 hts gX1_init_X3_init_n26 rfl rfl rfl (nw_X1_26 hN) (hts (.initialized RX3) (by decide +kernel)) (by decide +kernel) ⟨Nat.le_of_ble_eq_true rfl, Nat.le_of_ble_eq_true rfl⟩, rfl, hts (.instanceMethod yX3_init) (by decide +kernel)⟩ (pS [5] hP hD hK hN rfl rfl) rfl rfl hl.1 rfl (lv_room (Nat.le_of_ble_eq_true rfl)) dX1_init_45 ⟨Nat.le_of_ble_eq_true rfl, Nat.le_of_ble_eq_true rfl⟩) hP hD hS hA rfl rfl rfl (by decide) (fun u6 hu6 => ?_)
  have hu6 : u6 0 = q5 := hu6
  subst hu6
  intro H locs hP hD hS
  have hP : va_P D vwCl ([(q, .inr (1, [.ref q1, .ref q2, .ref q3, .ref q4, .null, .int 0, .int 0, .int 0])), (q1, .inl (cI, 30000, .inl (fun _ => 0))), (q2, .inl (cI, 30000, .inl (fun _ => 0))), (q3, .inl (cI, 513, .inl (fun _ => 0))), (q4, .inl (cI, 512, .inl (fun _ => 0)))] ++ (wX3 u6 cI cZ z0)) H := hP
  have hD : va_D A ([(q, .inr (1, [.ref q1, .ref q2, .ref q3, .ref q4, .null, .int 0, .int 0, .int 0])), (q1, .inl (cI, 30000, .inl (fun _ => 0))), (q2, .inl (cI, 30000, .inl (fun _ => 0))), (q3, .inl (cI, 513, .inl (fun _ => 0))), (q4, .inl (cI, 512, .inl (fun _ => 0)))] ++ (wX3 u6 cI cZ z0)) := hD
  refine va_putF (D := D) (ci := 1) (v := .ref (u6 0)) (ty := .object "TermLoom$Walk") (C := RX1) (T := TX1) (N := 8) hx hb hts in_X1_init_X1 tyX1 tyX1_ok nmX1 hown hK hP hD hS 0 rfl rfl 4 (by decide) (hts (.fieldLink RX1 27 "TermLoom$TermStore" "walk" "LTermLoom$Walk;") (by decide +kernel)) (fun _ h9 => h9) rfl hin rfl (by decide +kernel) rfl rfl (Nat.le_of_ble_eq_true rfl) dX1_init_48 (fun H locs hP hD hS => ?_)
  have hP : va_P D vwCl ([(q, .inr (1, [.ref q1, .ref q2, .ref q3, .ref q4, .ref (u6 0), .int 0, .int 0, .int 0])), (q1, .inl (cI, 30000, .inl (fun _ => 0))), (q2, .inl (cI, 30000, .inl (fun _ => 0))), (q3, .inl (cI, 513, .inl (fun _ => 0))), (q4, .inl (cI, 512, .inl (fun _ => 0)))] ++ (wX3 u6 cI cZ z0)) H := hP
  have hD : va_D A ([(q, .inr (1, [.ref q1, .ref q2, .ref q3, .ref q4, .ref (u6 0), .int 0, .int 0, .int 0])), (q1, .inl (cI, 30000, .inl (fun _ => 0))), (q2, .inl (cI, 30000, .inl (fun _ => 0))), (q3, .inl (cI, 513, .inl (fun _ => 0))), (q4, .inl (cI, 512, .inl (fun _ => 0)))] ++ (wX3 u6 cI cZ z0)) := hD
  exact ret_n ((adL [q, q1, q2, q3, q4], u6)) C0 rfl hP hD hS dX1_init_51 (by decide) (by decide)

theorem in_X2_init_X2 : ∀ w ∈ u_ws RX2 TX2 14, w ∈ wsX2_init := by decide +kernel
set_option maxHeartbeats 4000000 in
set_option maxRecDepth 100000 in
theorem c_X2_init (l : Launch) (D : va_G) (cI cZ : ClassId) (q : Nat) (N : Nat) (g : Nat → Int32) (hg : f_J7_fill_53178 N 4096 (fun _ => 0) (-1) = some g) : MN l yX2_init wsX2_init ({ frames := 1, cells := 10, slots := 68608, locals := 23 } : Room) D cI cZ q (.inr (2, [.null, .null, .null, .null, .null, .null, .null, .null, .null, .null, .int 0, .int 0, .int 0, .int 0])) (fun a2 : Nat → Nat => wX2 a2 cI cZ (upR z0 6 g)) (fun a2 => a2 0 = q) 10 68608 := by
  refine MN.of (cc := cX2_init) (maxL := 1) (own := RX2) (by decide) rfl rfl rfl (Nat.le_of_ble_eq_true rfl) ?_
  intro p e s m args below meth c A C0 hin H locs ls hP hD hS hl
  obtain ⟨hx, hb, hml, hr, hown, hts, hlocks, hA, hK, hN⟩ := id C0
  refine lv_aload_n hx hb dX2_init_0 rfl (lv_at hl 0 rfl) ?_
  refine W.objInit hx hb hown (hts (.methodLink RX2 3 objectInit) (by decide +kernel)) (hts (.instanceMethod objectInit) (by decide +kernel)) (hts (.code objectInit ⟨#[0xb1]⟩ 1 none) (by decide +kernel)) rfl (by rw [hml]; exact hl.1) rfl dX2_init_1 (Nat.le_of_ble_eq_true rfl) (Nat.le_of_ble_eq_true rfl) ?_
  refine W.eq (g2 := F0 m 4 ls []) rfl ?_
  refine lv_aload_n hx hb dX2_init_4 rfl (lv_at hl 0 rfl) ?_
  refine lv_sipush (v := 8000) hx hb dX2_init_5 rfl ?_
  refine va_newa (atype := .int) (a0 := (8000, .inl (fun _ => 0))) (N' := 8000) hx hb (hts (.arrayClass .int) (by decide +kernel)) rfl hK hP hD hS hA (fun _ => rfl) (by decide) rfl (by decide) (Nat.le_of_ble_eq_true rfl) (Nat.le_of_ble_eq_true rfl) dX2_init_8 (fun q1 cA H hK9 hP hD hS => ?_)
  obtain rfl := cA_int hK9
  have hP : va_P D vwCl ([(q, .inr (2, [.null, .null, .null, .null, .null, .null, .null, .null, .null, .null, .int 0, .int 0, .int 0, .int 0])), (q1, .inl (cI, 8000, .inl (fun _ => 0)))]) H := hP
  have hD : va_D A ([(q, .inr (2, [.null, .null, .null, .null, .null, .null, .null, .null, .null, .null, .int 0, .int 0, .int 0, .int 0])), (q1, .inl (cI, 8000, .inl (fun _ => 0)))]) := hD
  refine va_putF (D := D) (ci := 2) (v := .ref q1) (ty := .array .int) (C := RX2) (T := TX2) (N := 14) hx hb hts in_X2_init_X2 tyX2 tyX2_ok nmX2 hown hK hP hD hS 0 rfl rfl 0 (by decide) (hts (.fieldLink RX2 9 "TermLoom$TypeTable" "heads" "[I") (by decide +kernel)) (fun _ h9 => h9) rfl hin rfl (by decide +kernel) rfl rfl (Nat.le_of_ble_eq_true rfl) dX2_init_10 (fun H locs hP hD hS => ?_)
  have hP : va_P D vwCl ([(q, .inr (2, [.ref q1, .null, .null, .null, .null, .null, .null, .null, .null, .null, .int 0, .int 0, .int 0, .int 0])), (q1, .inl (cI, 8000, .inl (fun _ => 0)))]) H := hP
  have hD : va_D A ([(q, .inr (2, [.ref q1, .null, .null, .null, .null, .null, .null, .null, .null, .null, .int 0, .int 0, .int 0, .int 0])), (q1, .inl (cI, 8000, .inl (fun _ => 0)))]) := hD
  refine lv_aload_n hx hb dX2_init_13 rfl (lv_at hl 0 rfl) ?_
  refine lv_sipush (v := 8000) hx hb dX2_init_14 rfl ?_
  refine va_newa (atype := .int) (a0 := (8000, .inl (fun _ => 0))) (N' := 8000) hx hb (hts (.arrayClass .int) (by decide +kernel)) rfl hK hP hD hS hA (fun _ => rfl) (by decide) rfl (by decide) (Nat.le_of_ble_eq_true rfl) (Nat.le_of_ble_eq_true rfl) dX2_init_17 (fun q2 cA H hK9 hP hD hS => ?_)
  obtain rfl := cA_int hK9
  have hP : va_P D vwCl ([(q, .inr (2, [.ref q1, .null, .null, .null, .null, .null, .null, .null, .null, .null, .int 0, .int 0, .int 0, .int 0])), (q1, .inl (cI, 8000, .inl (fun _ => 0))), (q2, .inl (cI, 8000, .inl (fun _ => 0)))]) H := hP
  have hD : va_D A ([(q, .inr (2, [.ref q1, .null, .null, .null, .null, .null, .null, .null, .null, .null, .int 0, .int 0, .int 0, .int 0])), (q1, .inl (cI, 8000, .inl (fun _ => 0))), (q2, .inl (cI, 8000, .inl (fun _ => 0)))]) := hD
  refine va_putF (D := D) (ci := 2) (v := .ref q2) (ty := .array .int) (C := RX2) (T := TX2) (N := 14) hx hb hts in_X2_init_X2 tyX2 tyX2_ok nmX2 hown hK hP hD hS 0 rfl rfl 1 (by decide) (hts (.fieldLink RX2 15 "TermLoom$TypeTable" "firsts" "[I") (by decide +kernel)) (fun _ h9 => h9) rfl hin rfl (by decide +kernel) rfl rfl (Nat.le_of_ble_eq_true rfl) dX2_init_19 (fun H locs hP hD hS => ?_)
  have hP : va_P D vwCl ([(q, .inr (2, [.ref q1, .ref q2, .null, .null, .null, .null, .null, .null, .null, .null, .int 0, .int 0, .int 0, .int 0])), (q1, .inl (cI, 8000, .inl (fun _ => 0))), (q2, .inl (cI, 8000, .inl (fun _ => 0)))]) H := hP
  have hD : va_D A ([(q, .inr (2, [.ref q1, .ref q2, .null, .null, .null, .null, .null, .null, .null, .null, .int 0, .int 0, .int 0, .int 0])), (q1, .inl (cI, 8000, .inl (fun _ => 0))), (q2, .inl (cI, 8000, .inl (fun _ => 0)))]) := hD
  refine lv_aload_n hx hb dX2_init_22 rfl (lv_at hl 0 rfl) ?_
  refine lv_sipush (v := 8000) hx hb dX2_init_23 rfl ?_
  refine va_newa (atype := .int) (a0 := (8000, .inl (fun _ => 0))) (N' := 8000) hx hb (hts (.arrayClass .int) (by decide +kernel)) rfl hK hP hD hS hA (fun _ => rfl) (by decide) rfl (by decide) (Nat.le_of_ble_eq_true rfl) (Nat.le_of_ble_eq_true rfl) dX2_init_26 (fun q3 cA H hK9 hP hD hS => ?_)
  obtain rfl := cA_int hK9
  have hP : va_P D vwCl ([(q, .inr (2, [.ref q1, .ref q2, .null, .null, .null, .null, .null, .null, .null, .null, .int 0, .int 0, .int 0, .int 0])), (q1, .inl (cI, 8000, .inl (fun _ => 0))), (q2, .inl (cI, 8000, .inl (fun _ => 0))), (q3, .inl (cI, 8000, .inl (fun _ => 0)))]) H := hP
  have hD : va_D A ([(q, .inr (2, [.ref q1, .ref q2, .null, .null, .null, .null, .null, .null, .null, .null, .int 0, .int 0, .int 0, .int 0])), (q1, .inl (cI, 8000, .inl (fun _ => 0))), (q2, .inl (cI, 8000, .inl (fun _ => 0))), (q3, .inl (cI, 8000, .inl (fun _ => 0)))]) := hD
  refine va_putF (D := D) (ci := 2) (v := .ref q3) (ty := .array .int) (C := RX2) (T := TX2) (N := 14) hx hb hts in_X2_init_X2 tyX2 tyX2_ok nmX2 hown hK hP hD hS 0 rfl rfl 2 (by decide) (hts (.fieldLink RX2 18 "TermLoom$TypeTable" "seconds" "[I") (by decide +kernel)) (fun _ h9 => h9) rfl hin rfl (by decide +kernel) rfl rfl (Nat.le_of_ble_eq_true rfl) dX2_init_28 (fun H locs hP hD hS => ?_)
  have hP : va_P D vwCl ([(q, .inr (2, [.ref q1, .ref q2, .ref q3, .null, .null, .null, .null, .null, .null, .null, .int 0, .int 0, .int 0, .int 0])), (q1, .inl (cI, 8000, .inl (fun _ => 0))), (q2, .inl (cI, 8000, .inl (fun _ => 0))), (q3, .inl (cI, 8000, .inl (fun _ => 0)))]) H := hP
  have hD : va_D A ([(q, .inr (2, [.ref q1, .ref q2, .ref q3, .null, .null, .null, .null, .null, .null, .null, .int 0, .int 0, .int 0, .int 0])), (q1, .inl (cI, 8000, .inl (fun _ => 0))), (q2, .inl (cI, 8000, .inl (fun _ => 0))), (q3, .inl (cI, 8000, .inl (fun _ => 0)))]) := hD
  refine lv_aload_n hx hb dX2_init_31 rfl (lv_at hl 0 rfl) ?_
  refine lv_sipush (v := 8000) hx hb dX2_init_32 rfl ?_
  refine va_newa (atype := .int) (a0 := (8000, .inl (fun _ => 0))) (N' := 8000) hx hb (hts (.arrayClass .int) (by decide +kernel)) rfl hK hP hD hS hA (fun _ => rfl) (by decide) rfl (by decide) (Nat.le_of_ble_eq_true rfl) (Nat.le_of_ble_eq_true rfl) dX2_init_35 (fun q4 cA H hK9 hP hD hS => ?_)
  obtain rfl := cA_int hK9
  have hP : va_P D vwCl ([(q, .inr (2, [.ref q1, .ref q2, .ref q3, .null, .null, .null, .null, .null, .null, .null, .int 0, .int 0, .int 0, .int 0])), (q1, .inl (cI, 8000, .inl (fun _ => 0))), (q2, .inl (cI, 8000, .inl (fun _ => 0))), (q3, .inl (cI, 8000, .inl (fun _ => 0))), (q4, .inl (cI, 8000, .inl (fun _ => 0)))]) H := hP
  have hD : va_D A ([(q, .inr (2, [.ref q1, .ref q2, .ref q3, .null, .null, .null, .null, .null, .null, .null, .int 0, .int 0, .int 0, .int 0])), (q1, .inl (cI, 8000, .inl (fun _ => 0))), (q2, .inl (cI, 8000, .inl (fun _ => 0))), (q3, .inl (cI, 8000, .inl (fun _ => 0))), (q4, .inl (cI, 8000, .inl (fun _ => 0)))]) := hD
  refine va_putF (D := D) (ci := 2) (v := .ref q4) (ty := .array .int) (C := RX2) (T := TX2) (N := 14) hx hb hts in_X2_init_X2 tyX2 tyX2_ok nmX2 hown hK hP hD hS 0 rfl rfl 3 (by decide) (hts (.fieldLink RX2 21 "TermLoom$TypeTable" "symbols" "[I") (by decide +kernel)) (fun _ h9 => h9) rfl hin rfl (by decide +kernel) rfl rfl (Nat.le_of_ble_eq_true rfl) dX2_init_37 (fun H locs hP hD hS => ?_)
  have hP : va_P D vwCl ([(q, .inr (2, [.ref q1, .ref q2, .ref q3, .ref q4, .null, .null, .null, .null, .null, .null, .int 0, .int 0, .int 0, .int 0])), (q1, .inl (cI, 8000, .inl (fun _ => 0))), (q2, .inl (cI, 8000, .inl (fun _ => 0))), (q3, .inl (cI, 8000, .inl (fun _ => 0))), (q4, .inl (cI, 8000, .inl (fun _ => 0)))]) H := hP
  have hD : va_D A ([(q, .inr (2, [.ref q1, .ref q2, .ref q3, .ref q4, .null, .null, .null, .null, .null, .null, .int 0, .int 0, .int 0, .int 0])), (q1, .inl (cI, 8000, .inl (fun _ => 0))), (q2, .inl (cI, 8000, .inl (fun _ => 0))), (q3, .inl (cI, 8000, .inl (fun _ => 0))), (q4, .inl (cI, 8000, .inl (fun _ => 0)))]) := hD
  refine lv_aload_n hx hb dX2_init_40 rfl (lv_at hl 0 rfl) ?_
  refine lv_sipush (v := 8000) hx hb dX2_init_41 rfl ?_
  refine va_newa (atype := .int) (a0 := (8000, .inl (fun _ => 0))) (N' := 8000) hx hb (hts (.arrayClass .int) (by decide +kernel)) rfl hK hP hD hS hA (fun _ => rfl) (by decide) rfl (by decide) (Nat.le_of_ble_eq_true rfl) (Nat.le_of_ble_eq_true rfl) dX2_init_44 (fun q5 cA H hK9 hP hD hS => ?_)
  obtain rfl := cA_int hK9
  have hP : va_P D vwCl ([(q, .inr (2, [.ref q1, .ref q2, .ref q3, .ref q4, .null, .null, .null, .null, .null, .null, .int 0, .int 0, .int 0, .int 0])), (q1, .inl (cI, 8000, .inl (fun _ => 0))), (q2, .inl (cI, 8000, .inl (fun _ => 0))), (q3, .inl (cI, 8000, .inl (fun _ => 0))), (q4, .inl (cI, 8000, .inl (fun _ => 0))), (q5, .inl (cI, 8000, .inl (fun _ => 0)))]) H := hP
  have hD : va_D A ([(q, .inr (2, [.ref q1, .ref q2, .ref q3, .ref q4, .null, .null, .null, .null, .null, .null, .int 0, .int 0, .int 0, .int 0])), (q1, .inl (cI, 8000, .inl (fun _ => 0))), (q2, .inl (cI, 8000, .inl (fun _ => 0))), (q3, .inl (cI, 8000, .inl (fun _ => 0))), (q4, .inl (cI, 8000, .inl (fun _ => 0))), (q5, .inl (cI, 8000, .inl (fun _ => 0)))]) := hD
  refine va_putF (D := D) (ci := 2) (v := .ref q5) (ty := .array .int) (C := RX2) (T := TX2) (N := 14) hx hb hts in_X2_init_X2 tyX2 tyX2_ok nmX2 hown hK hP hD hS 0 rfl rfl 4 (by decide) (hts (.fieldLink RX2 24 "TermLoom$TypeTable" "heights" "[I") (by decide +kernel)) (fun _ h9 => h9) rfl hin rfl (by decide +kernel) rfl rfl (Nat.le_of_ble_eq_true rfl) dX2_init_46 (fun H locs hP hD hS => ?_)
  have hP : va_P D vwCl ([(q, .inr (2, [.ref q1, .ref q2, .ref q3, .ref q4, .ref q5, .null, .null, .null, .null, .null, .int 0, .int 0, .int 0, .int 0])), (q1, .inl (cI, 8000, .inl (fun _ => 0))), (q2, .inl (cI, 8000, .inl (fun _ => 0))), (q3, .inl (cI, 8000, .inl (fun _ => 0))), (q4, .inl (cI, 8000, .inl (fun _ => 0))), (q5, .inl (cI, 8000, .inl (fun _ => 0)))]) H := hP
  have hD : va_D A ([(q, .inr (2, [.ref q1, .ref q2, .ref q3, .ref q4, .ref q5, .null, .null, .null, .null, .null, .int 0, .int 0, .int 0, .int 0])), (q1, .inl (cI, 8000, .inl (fun _ => 0))), (q2, .inl (cI, 8000, .inl (fun _ => 0))), (q3, .inl (cI, 8000, .inl (fun _ => 0))), (q4, .inl (cI, 8000, .inl (fun _ => 0))), (q5, .inl (cI, 8000, .inl (fun _ => 0)))]) := hD
  refine lv_aload_n hx hb dX2_init_49 rfl (lv_at hl 0 rfl) ?_
  refine lv_sipush (v := 8000) hx hb dX2_init_50 rfl ?_
  refine va_newa (atype := .int) (a0 := (8000, .inl (fun _ => 0))) (N' := 8000) hx hb (hts (.arrayClass .int) (by decide +kernel)) rfl hK hP hD hS hA (fun _ => rfl) (by decide) rfl (by decide) (Nat.le_of_ble_eq_true rfl) (Nat.le_of_ble_eq_true rfl) dX2_init_53 (fun q6 cA H hK9 hP hD hS => ?_)
  obtain rfl := cA_int hK9
  have hP : va_P D vwCl ([(q, .inr (2, [.ref q1, .ref q2, .ref q3, .ref q4, .ref q5, .null, .null, .null, .null, .null, .int 0, .int 0, .int 0, .int 0])), (q1, .inl (cI, 8000, .inl (fun _ => 0))), (q2, .inl (cI, 8000, .inl (fun _ => 0))), (q3, .inl (cI, 8000, .inl (fun _ => 0))), (q4, .inl (cI, 8000, .inl (fun _ => 0))), (q5, .inl (cI, 8000, .inl (fun _ => 0))), (q6, .inl (cI, 8000, .inl (fun _ => 0)))]) H := hP
  have hD : va_D A ([(q, .inr (2, [.ref q1, .ref q2, .ref q3, .ref q4, .ref q5, .null, .null, .null, .null, .null, .int 0, .int 0, .int 0, .int 0])), (q1, .inl (cI, 8000, .inl (fun _ => 0))), (q2, .inl (cI, 8000, .inl (fun _ => 0))), (q3, .inl (cI, 8000, .inl (fun _ => 0))), (q4, .inl (cI, 8000, .inl (fun _ => 0))), (q5, .inl (cI, 8000, .inl (fun _ => 0))), (q6, .inl (cI, 8000, .inl (fun _ => 0)))]) := hD
  refine va_putF (D := D) (ci := 2) (v := .ref q6) (ty := .array .int) (C := RX2) (T := TX2) (N := 14) hx hb hts in_X2_init_X2 tyX2 tyX2_ok nmX2 hown hK hP hD hS 0 rfl rfl 5 (by decide) (hts (.fieldLink RX2 27 "TermLoom$TypeTable" "older" "[I") (by decide +kernel)) (fun _ h9 => h9) rfl hin rfl (by decide +kernel) rfl rfl (Nat.le_of_ble_eq_true rfl) dX2_init_55 (fun H locs hP hD hS => ?_)
  have hP : va_P D vwCl ([(q, .inr (2, [.ref q1, .ref q2, .ref q3, .ref q4, .ref q5, .ref q6, .null, .null, .null, .null, .int 0, .int 0, .int 0, .int 0])), (q1, .inl (cI, 8000, .inl (fun _ => 0))), (q2, .inl (cI, 8000, .inl (fun _ => 0))), (q3, .inl (cI, 8000, .inl (fun _ => 0))), (q4, .inl (cI, 8000, .inl (fun _ => 0))), (q5, .inl (cI, 8000, .inl (fun _ => 0))), (q6, .inl (cI, 8000, .inl (fun _ => 0)))]) H := hP
  have hD : va_D A ([(q, .inr (2, [.ref q1, .ref q2, .ref q3, .ref q4, .ref q5, .ref q6, .null, .null, .null, .null, .int 0, .int 0, .int 0, .int 0])), (q1, .inl (cI, 8000, .inl (fun _ => 0))), (q2, .inl (cI, 8000, .inl (fun _ => 0))), (q3, .inl (cI, 8000, .inl (fun _ => 0))), (q4, .inl (cI, 8000, .inl (fun _ => 0))), (q5, .inl (cI, 8000, .inl (fun _ => 0))), (q6, .inl (cI, 8000, .inl (fun _ => 0)))]) := hD
  refine lv_aload_n hx hb dX2_init_58 rfl (lv_at hl 0 rfl) ?_
  refine lv_sipush (v := 4096) hx hb dX2_init_59 rfl ?_
  refine va_newa (atype := .int) (a0 := (4096, .inl (fun _ => 0))) (N' := 4096) hx hb (hts (.arrayClass .int) (by decide +kernel)) rfl hK hP hD hS hA (fun _ => rfl) (by decide) rfl (by decide) (Nat.le_of_ble_eq_true rfl) (Nat.le_of_ble_eq_true rfl) dX2_init_62 (fun q7 cA H hK9 hP hD hS => ?_)
  obtain rfl := cA_int hK9
  have hP : va_P D vwCl ([(q, .inr (2, [.ref q1, .ref q2, .ref q3, .ref q4, .ref q5, .ref q6, .null, .null, .null, .null, .int 0, .int 0, .int 0, .int 0])), (q1, .inl (cI, 8000, .inl (fun _ => 0))), (q2, .inl (cI, 8000, .inl (fun _ => 0))), (q3, .inl (cI, 8000, .inl (fun _ => 0))), (q4, .inl (cI, 8000, .inl (fun _ => 0))), (q5, .inl (cI, 8000, .inl (fun _ => 0))), (q6, .inl (cI, 8000, .inl (fun _ => 0))), (q7, .inl (cI, 4096, .inl (fun _ => 0)))]) H := hP
  have hD : va_D A ([(q, .inr (2, [.ref q1, .ref q2, .ref q3, .ref q4, .ref q5, .ref q6, .null, .null, .null, .null, .int 0, .int 0, .int 0, .int 0])), (q1, .inl (cI, 8000, .inl (fun _ => 0))), (q2, .inl (cI, 8000, .inl (fun _ => 0))), (q3, .inl (cI, 8000, .inl (fun _ => 0))), (q4, .inl (cI, 8000, .inl (fun _ => 0))), (q5, .inl (cI, 8000, .inl (fun _ => 0))), (q6, .inl (cI, 8000, .inl (fun _ => 0))), (q7, .inl (cI, 4096, .inl (fun _ => 0)))]) := hD
  refine va_putF (D := D) (ci := 2) (v := .ref q7) (ty := .array .int) (C := RX2) (T := TX2) (N := 14) hx hb hts in_X2_init_X2 tyX2 tyX2_ok nmX2 hown hK hP hD hS 0 rfl rfl 6 (by decide) (hts (.fieldLink RX2 30 "TermLoom$TypeTable" "buckets" "[I") (by decide +kernel)) (fun _ h9 => h9) rfl hin rfl (by decide +kernel) rfl rfl (Nat.le_of_ble_eq_true rfl) dX2_init_64 (fun H locs hP hD hS => ?_)
  have hP : va_P D vwCl ([(q, .inr (2, [.ref q1, .ref q2, .ref q3, .ref q4, .ref q5, .ref q6, .ref q7, .null, .null, .null, .int 0, .int 0, .int 0, .int 0])), (q1, .inl (cI, 8000, .inl (fun _ => 0))), (q2, .inl (cI, 8000, .inl (fun _ => 0))), (q3, .inl (cI, 8000, .inl (fun _ => 0))), (q4, .inl (cI, 8000, .inl (fun _ => 0))), (q5, .inl (cI, 8000, .inl (fun _ => 0))), (q6, .inl (cI, 8000, .inl (fun _ => 0))), (q7, .inl (cI, 4096, .inl (fun _ => 0)))]) H := hP
  have hD : va_D A ([(q, .inr (2, [.ref q1, .ref q2, .ref q3, .ref q4, .ref q5, .ref q6, .ref q7, .null, .null, .null, .int 0, .int 0, .int 0, .int 0])), (q1, .inl (cI, 8000, .inl (fun _ => 0))), (q2, .inl (cI, 8000, .inl (fun _ => 0))), (q3, .inl (cI, 8000, .inl (fun _ => 0))), (q4, .inl (cI, 8000, .inl (fun _ => 0))), (q5, .inl (cI, 8000, .inl (fun _ => 0))), (q6, .inl (cI, 8000, .inl (fun _ => 0))), (q7, .inl (cI, 4096, .inl (fun _ => 0)))]) := hD
  refine lv_aload_n hx hb dX2_init_67 rfl (lv_at hl 0 rfl) ?_
  refine lv_sipush (v := 8000) hx hb dX2_init_68 rfl ?_
  refine va_newa (atype := .int) (a0 := (8000, .inl (fun _ => 0))) (N' := 8000) hx hb (hts (.arrayClass .int) (by decide +kernel)) rfl hK hP hD hS hA (fun _ => rfl) (by decide) rfl (by decide) (Nat.le_of_ble_eq_true rfl) (Nat.le_of_ble_eq_true rfl) dX2_init_71 (fun q8 cA H hK9 hP hD hS => ?_)
  obtain rfl := cA_int hK9
  have hP : va_P D vwCl ([(q, .inr (2, [.ref q1, .ref q2, .ref q3, .ref q4, .ref q5, .ref q6, .ref q7, .null, .null, .null, .int 0, .int 0, .int 0, .int 0])), (q1, .inl (cI, 8000, .inl (fun _ => 0))), (q2, .inl (cI, 8000, .inl (fun _ => 0))), (q3, .inl (cI, 8000, .inl (fun _ => 0))), (q4, .inl (cI, 8000, .inl (fun _ => 0))), (q5, .inl (cI, 8000, .inl (fun _ => 0))), (q6, .inl (cI, 8000, .inl (fun _ => 0))), (q7, .inl (cI, 4096, .inl (fun _ => 0))), (q8, .inl (cI, 8000, .inl (fun _ => 0)))]) H := hP
  have hD : va_D A ([(q, .inr (2, [.ref q1, .ref q2, .ref q3, .ref q4, .ref q5, .ref q6, .ref q7, .null, .null, .null, .int 0, .int 0, .int 0, .int 0])), (q1, .inl (cI, 8000, .inl (fun _ => 0))), (q2, .inl (cI, 8000, .inl (fun _ => 0))), (q3, .inl (cI, 8000, .inl (fun _ => 0))), (q4, .inl (cI, 8000, .inl (fun _ => 0))), (q5, .inl (cI, 8000, .inl (fun _ => 0))), (q6, .inl (cI, 8000, .inl (fun _ => 0))), (q7, .inl (cI, 4096, .inl (fun _ => 0))), (q8, .inl (cI, 8000, .inl (fun _ => 0)))]) := hD
  refine va_putF (D := D) (ci := 2) (v := .ref q8) (ty := .array .int) (C := RX2) (T := TX2) (N := 14) hx hb hts in_X2_init_X2 tyX2 tyX2_ok nmX2 hown hK hP hD hS 0 rfl rfl 7 (by decide) (hts (.fieldLink RX2 33 "TermLoom$TypeTable" "images" "[I") (by decide +kernel)) (fun _ h9 => h9) rfl hin rfl (by decide +kernel) rfl rfl (Nat.le_of_ble_eq_true rfl) dX2_init_73 (fun H locs hP hD hS => ?_)
  have hP : va_P D vwCl ([(q, .inr (2, [.ref q1, .ref q2, .ref q3, .ref q4, .ref q5, .ref q6, .ref q7, .ref q8, .null, .null, .int 0, .int 0, .int 0, .int 0])), (q1, .inl (cI, 8000, .inl (fun _ => 0))), (q2, .inl (cI, 8000, .inl (fun _ => 0))), (q3, .inl (cI, 8000, .inl (fun _ => 0))), (q4, .inl (cI, 8000, .inl (fun _ => 0))), (q5, .inl (cI, 8000, .inl (fun _ => 0))), (q6, .inl (cI, 8000, .inl (fun _ => 0))), (q7, .inl (cI, 4096, .inl (fun _ => 0))), (q8, .inl (cI, 8000, .inl (fun _ => 0)))]) H := hP
  have hD : va_D A ([(q, .inr (2, [.ref q1, .ref q2, .ref q3, .ref q4, .ref q5, .ref q6, .ref q7, .ref q8, .null, .null, .int 0, .int 0, .int 0, .int 0])), (q1, .inl (cI, 8000, .inl (fun _ => 0))), (q2, .inl (cI, 8000, .inl (fun _ => 0))), (q3, .inl (cI, 8000, .inl (fun _ => 0))), (q4, .inl (cI, 8000, .inl (fun _ => 0))), (q5, .inl (cI, 8000, .inl (fun _ => 0))), (q6, .inl (cI, 8000, .inl (fun _ => 0))), (q7, .inl (cI, 4096, .inl (fun _ => 0))), (q8, .inl (cI, 8000, .inl (fun _ => 0)))]) := hD
  refine lv_aload_n hx hb dX2_init_76 rfl (lv_at hl 0 rfl) ?_
  refine lv_sipush (v := 8000) hx hb dX2_init_77 rfl ?_
  refine va_newa (atype := .int) (a0 := (8000, .inl (fun _ => 0))) (N' := 8000) hx hb (hts (.arrayClass .int) (by decide +kernel)) rfl hK hP hD hS hA (fun _ => rfl) (by decide) rfl (by decide) (Nat.le_of_ble_eq_true rfl) (Nat.le_of_ble_eq_true rfl) dX2_init_80 (fun q9 cA H hK9 hP hD hS => ?_)
  obtain rfl := cA_int hK9
  have hP : va_P D vwCl ([(q, .inr (2, [.ref q1, .ref q2, .ref q3, .ref q4, .ref q5, .ref q6, .ref q7, .ref q8, .null, .null, .int 0, .int 0, .int 0, .int 0])), (q1, .inl (cI, 8000, .inl (fun _ => 0))), (q2, .inl (cI, 8000, .inl (fun _ => 0))), (q3, .inl (cI, 8000, .inl (fun _ => 0))), (q4, .inl (cI, 8000, .inl (fun _ => 0))), (q5, .inl (cI, 8000, .inl (fun _ => 0))), (q6, .inl (cI, 8000, .inl (fun _ => 0))), (q7, .inl (cI, 4096, .inl (fun _ => 0))), (q8, .inl (cI, 8000, .inl (fun _ => 0))), (q9, .inl (cI, 8000, .inl (fun _ => 0)))]) H := hP
  have hD : va_D A ([(q, .inr (2, [.ref q1, .ref q2, .ref q3, .ref q4, .ref q5, .ref q6, .ref q7, .ref q8, .null, .null, .int 0, .int 0, .int 0, .int 0])), (q1, .inl (cI, 8000, .inl (fun _ => 0))), (q2, .inl (cI, 8000, .inl (fun _ => 0))), (q3, .inl (cI, 8000, .inl (fun _ => 0))), (q4, .inl (cI, 8000, .inl (fun _ => 0))), (q5, .inl (cI, 8000, .inl (fun _ => 0))), (q6, .inl (cI, 8000, .inl (fun _ => 0))), (q7, .inl (cI, 4096, .inl (fun _ => 0))), (q8, .inl (cI, 8000, .inl (fun _ => 0))), (q9, .inl (cI, 8000, .inl (fun _ => 0)))]) := hD
  refine va_putF (D := D) (ci := 2) (v := .ref q9) (ty := .array .int) (C := RX2) (T := TX2) (N := 14) hx hb hts in_X2_init_X2 tyX2 tyX2_ok nmX2 hown hK hP hD hS 0 rfl rfl 8 (by decide) (hts (.fieldLink RX2 36 "TermLoom$TypeTable" "stamps" "[I") (by decide +kernel)) (fun _ h9 => h9) rfl hin rfl (by decide +kernel) rfl rfl (Nat.le_of_ble_eq_true rfl) dX2_init_82 (fun H locs hP hD hS => ?_)
  have hP : va_P D vwCl ([(q, .inr (2, [.ref q1, .ref q2, .ref q3, .ref q4, .ref q5, .ref q6, .ref q7, .ref q8, .ref q9, .null, .int 0, .int 0, .int 0, .int 0])), (q1, .inl (cI, 8000, .inl (fun _ => 0))), (q2, .inl (cI, 8000, .inl (fun _ => 0))), (q3, .inl (cI, 8000, .inl (fun _ => 0))), (q4, .inl (cI, 8000, .inl (fun _ => 0))), (q5, .inl (cI, 8000, .inl (fun _ => 0))), (q6, .inl (cI, 8000, .inl (fun _ => 0))), (q7, .inl (cI, 4096, .inl (fun _ => 0))), (q8, .inl (cI, 8000, .inl (fun _ => 0))), (q9, .inl (cI, 8000, .inl (fun _ => 0)))]) H := hP
  have hD : va_D A ([(q, .inr (2, [.ref q1, .ref q2, .ref q3, .ref q4, .ref q5, .ref q6, .ref q7, .ref q8, .ref q9, .null, .int 0, .int 0, .int 0, .int 0])), (q1, .inl (cI, 8000, .inl (fun _ => 0))), (q2, .inl (cI, 8000, .inl (fun _ => 0))), (q3, .inl (cI, 8000, .inl (fun _ => 0))), (q4, .inl (cI, 8000, .inl (fun _ => 0))), (q5, .inl (cI, 8000, .inl (fun _ => 0))), (q6, .inl (cI, 8000, .inl (fun _ => 0))), (q7, .inl (cI, 4096, .inl (fun _ => 0))), (q8, .inl (cI, 8000, .inl (fun _ => 0))), (q9, .inl (cI, 8000, .inl (fun _ => 0)))]) := hD
  refine lv_aload_n hx hb dX2_init_85 rfl (lv_at hl 0 rfl) ?_
  refine lv_sipush (v := 512) hx hb dX2_init_86 rfl ?_
  refine va_newa (atype := .int) (a0 := (512, .inl (fun _ => 0))) (N' := 512) hx hb (hts (.arrayClass .int) (by decide +kernel)) rfl hK hP hD hS hA (fun _ => rfl) (by decide) rfl (by decide) (Nat.le_of_ble_eq_true rfl) (Nat.le_of_ble_eq_true rfl) dX2_init_89 (fun q10 cA H hK9 hP hD hS => ?_)
  obtain rfl := cA_int hK9
  have hP : va_P D vwCl ([(q, .inr (2, [.ref q1, .ref q2, .ref q3, .ref q4, .ref q5, .ref q6, .ref q7, .ref q8, .ref q9, .null, .int 0, .int 0, .int 0, .int 0])), (q1, .inl (cI, 8000, .inl (fun _ => 0))), (q2, .inl (cI, 8000, .inl (fun _ => 0))), (q3, .inl (cI, 8000, .inl (fun _ => 0))), (q4, .inl (cI, 8000, .inl (fun _ => 0))), (q5, .inl (cI, 8000, .inl (fun _ => 0))), (q6, .inl (cI, 8000, .inl (fun _ => 0))), (q7, .inl (cI, 4096, .inl (fun _ => 0))), (q8, .inl (cI, 8000, .inl (fun _ => 0))), (q9, .inl (cI, 8000, .inl (fun _ => 0))), (q10, .inl (cI, 512, .inl (fun _ => 0)))]) H := hP
  have hD : va_D A ([(q, .inr (2, [.ref q1, .ref q2, .ref q3, .ref q4, .ref q5, .ref q6, .ref q7, .ref q8, .ref q9, .null, .int 0, .int 0, .int 0, .int 0])), (q1, .inl (cI, 8000, .inl (fun _ => 0))), (q2, .inl (cI, 8000, .inl (fun _ => 0))), (q3, .inl (cI, 8000, .inl (fun _ => 0))), (q4, .inl (cI, 8000, .inl (fun _ => 0))), (q5, .inl (cI, 8000, .inl (fun _ => 0))), (q6, .inl (cI, 8000, .inl (fun _ => 0))), (q7, .inl (cI, 4096, .inl (fun _ => 0))), (q8, .inl (cI, 8000, .inl (fun _ => 0))), (q9, .inl (cI, 8000, .inl (fun _ => 0))), (q10, .inl (cI, 512, .inl (fun _ => 0)))]) := hD
  refine va_putF (D := D) (ci := 2) (v := .ref q10) (ty := .array .int) (C := RX2) (T := TX2) (N := 14) hx hb hts in_X2_init_X2 tyX2 tyX2_ok nmX2 hown hK hP hD hS 0 rfl rfl 9 (by decide) (hts (.fieldLink RX2 39 "TermLoom$TypeTable" "handles" "[I") (by decide +kernel)) (fun _ h9 => h9) rfl hin rfl (by decide +kernel) rfl rfl (Nat.le_of_ble_eq_true rfl) dX2_init_91 (fun H locs hP hD hS => ?_)
  have hP : va_P D vwCl ([(q, .inr (2, [.ref q1, .ref q2, .ref q3, .ref q4, .ref q5, .ref q6, .ref q7, .ref q8, .ref q9, .ref q10, .int 0, .int 0, .int 0, .int 0])), (q1, .inl (cI, 8000, .inl (fun _ => 0))), (q2, .inl (cI, 8000, .inl (fun _ => 0))), (q3, .inl (cI, 8000, .inl (fun _ => 0))), (q4, .inl (cI, 8000, .inl (fun _ => 0))), (q5, .inl (cI, 8000, .inl (fun _ => 0))), (q6, .inl (cI, 8000, .inl (fun _ => 0))), (q7, .inl (cI, 4096, .inl (fun _ => 0))), (q8, .inl (cI, 8000, .inl (fun _ => 0))), (q9, .inl (cI, 8000, .inl (fun _ => 0))), (q10, .inl (cI, 512, .inl (fun _ => 0)))]) H := hP
  have hD : va_D A ([(q, .inr (2, [.ref q1, .ref q2, .ref q3, .ref q4, .ref q5, .ref q6, .ref q7, .ref q8, .ref q9, .ref q10, .int 0, .int 0, .int 0, .int 0])), (q1, .inl (cI, 8000, .inl (fun _ => 0))), (q2, .inl (cI, 8000, .inl (fun _ => 0))), (q3, .inl (cI, 8000, .inl (fun _ => 0))), (q4, .inl (cI, 8000, .inl (fun _ => 0))), (q5, .inl (cI, 8000, .inl (fun _ => 0))), (q6, .inl (cI, 8000, .inl (fun _ => 0))), (q7, .inl (cI, 4096, .inl (fun _ => 0))), (q8, .inl (cI, 8000, .inl (fun _ => 0))), (q9, .inl (cI, 8000, .inl (fun _ => 0))), (q10, .inl (cI, 512, .inl (fun _ => 0)))]) := hD
  refine lv_aload_n hx hb dX2_init_94 rfl (lv_at hl 0 rfl) ?_
  refine va_get (D := D) (ci := 2) (v := .ref q7) (C := RX2) (T := TX2) (N := 14) hx hb hts in_X2_init_X2 hown hK hP 0 rfl rfl 6 (by decide) (hts (.fieldLink RX2 30 "TermLoom$TypeTable" "buckets" "[I") (by decide +kernel)) (fun _ h9 => h9) rfl dX2_init_95 ?_
  refine lv_iconst (v := (-1)) hx hb dX2_init_98 rfl ?_
  refine mg_v (ws' := [(q, .inr (2, [.ref q1, .ref q2, .ref q3, .ref q4, .ref q5, .ref q6, .ref q7, .ref q8, .ref q9, .ref q10, .int 0, .int 0, .int 0, .int 0])), (q1, .inl (cI, 8000, .inl (fun _ => 0))), (q2, .inl (cI, 8000, .inl (fun _ => 0))), (q3, .inl (cI, 8000, .inl (fun _ => 0))), (q4, .inl (cI, 8000, .inl (fun _ => 0))), (q5, .inl (cI, 8000, .inl (fun _ => 0))), (q6, .inl (cI, 8000, .inl (fun _ => 0))), (q7, .inl (cI, 4096, .inl g)), (q8, .inl (cI, 8000, .inl (fun _ => 0))), (q9, .inl (cI, 8000, .inl (fun _ => 0))), (q10, .inl (cI, 512, .inl (fun _ => 0)))]) (wr := ([(q, .inr (2, [.ref q1, .ref q2, .ref q3, .ref q4, .ref q5, .ref q6, .ref q7, .ref q8, .ref q9, .ref q10, .int 0, .int 0, .int 0, .int 0])), (q1, .inl (cI, 8000, .inl (fun _ => 0))), (q2, .inl (cI, 8000, .inl (fun _ => 0))), (q3, .inl (cI, 8000, .inl (fun _ => 0))), (q4, .inl (cI, 8000, .inl (fun _ => 0))), (q5, .inl (cI, 8000, .inl (fun _ => 0))), (q6, .inl (cI, 8000, .inl (fun _ => 0))), (q7, .inl (cI, 4096, .inl (fun _ => 0))), (q8, .inl (cI, 8000, .inl (fun _ => 0))), (q9, .inl (cI, 8000, .inl (fun _ => 0))), (q10, .inl (cI, 512, .inl (fun _ => 0)))]).eraseIdx 7) [7] [0, 1, 2, 3, 4, 5, 6, 8, 9, 10] [0, 1, 2, 3, 4, 5, 6, 10, 7, 8, 9] (va_runS (As := [.ref q7, .int (-1)]) (rest := []) ⟨hx, hb, hml, hown, hts⟩ (c_J7_fill_53178 l D cI cZ q7 4096 N (fun _ => 0) (-1) g hg H.size) (va_cwS 2 hts gX2_init_J7_fill_53178 rfl rfl rfl (by decide +kernel) ⟨Nat.le_of_ble_eq_true rfl, Nat.le_of_ble_eq_true rfl⟩) (pS [7] hP hD hK hN rfl rfl) rfl rfl hl.1 rfl (lv_room (Nat.le_of_ble_eq_true rfl)) dX2_init_99 ⟨Nat.le_of_ble_eq_true rfl, Nat.le_of_ble_eq_true rfl⟩) hP hD hS hA rfl rfl rfl (by decide) rfl rfl (fun H locs hP hD hS => ?_)
  exact ret_n (adL [q, q1, q2, q3, q4, q5, q6, q7, q8, q9, q10]) C0 rfl hP hD hS dX2_init_102 (by decide) (by decide)

theorem in_X0_init_X0 : ∀ w ∈ u_ws RX0 TX0 7, w ∈ wsX0_init := by decide +kernel
set_option maxHeartbeats 4000000 in
set_option maxRecDepth 100000 in
theorem c_X0_init (l : Launch) (D : va_G) (cI cZ : ClassId) (q : Nat) (N : Nat) (g : Nat → Int32) (hg : f_J7_fill_53178 N 1000 (fun _ => 0) (-1) = some g) : MN l yX0_init wsX0_init ({ frames := 1, cells := 6, slots := 11000, locals := 23 } : Room) D cI cZ q (.inr (0, [.null, .null, .null, .null, .null, .null, .int 0])) (fun a0 : Nat → Nat => wX0 a0 cI cZ (upR z0 5 g)) (fun a0 => a0 0 = q) 6 11000 := by
  refine MN.of (cc := cX0_init) (maxL := 1) (own := RX0) (by decide) rfl rfl rfl (Nat.le_of_ble_eq_true rfl) ?_
  intro p e s m args below meth c A C0 hin H locs ls hP hD hS hl
  obtain ⟨hx, hb, hml, hr, hown, hts, hlocks, hA, hK, hN⟩ := id C0
  refine lv_aload_n hx hb dX0_init_0 rfl (lv_at hl 0 rfl) ?_
  refine W.objInit hx hb hown (hts (.methodLink RX0 3 objectInit) (by decide +kernel)) (hts (.instanceMethod objectInit) (by decide +kernel)) (hts (.code objectInit ⟨#[0xb1]⟩ 1 none) (by decide +kernel)) rfl (by rw [hml]; exact hl.1) rfl dX0_init_1 (Nat.le_of_ble_eq_true rfl) (Nat.le_of_ble_eq_true rfl) ?_
  refine W.eq (g2 := F0 m 4 ls []) rfl ?_
  refine lv_aload_n hx hb dX0_init_4 rfl (lv_at hl 0 rfl) ?_
  refine lv_sipush (v := 2000) hx hb dX0_init_5 rfl ?_
  refine va_newa (atype := .int) (a0 := (2000, .inl (fun _ => 0))) (N' := 2000) hx hb (hts (.arrayClass .int) (by decide +kernel)) rfl hK hP hD hS hA (fun _ => rfl) (by decide) rfl (by decide) (Nat.le_of_ble_eq_true rfl) (Nat.le_of_ble_eq_true rfl) dX0_init_8 (fun q1 cA H hK9 hP hD hS => ?_)
  obtain rfl := cA_int hK9
  have hP : va_P D vwCl ([(q, .inr (0, [.null, .null, .null, .null, .null, .null, .int 0])), (q1, .inl (cI, 2000, .inl (fun _ => 0)))]) H := hP
  have hD : va_D A ([(q, .inr (0, [.null, .null, .null, .null, .null, .null, .int 0])), (q1, .inl (cI, 2000, .inl (fun _ => 0)))]) := hD
  refine va_putF (D := D) (ci := 0) (v := .ref q1) (ty := .array .int) (C := RX0) (T := TX0) (N := 7) hx hb hts in_X0_init_X0 tyX0 tyX0_ok nmX0 hown hK hP hD hS 0 rfl rfl 0 (by decide) (hts (.fieldLink RX0 9 "TermLoom$Bindings" "codes" "[I") (by decide +kernel)) (fun _ h9 => h9) rfl hin rfl (by decide +kernel) rfl rfl (Nat.le_of_ble_eq_true rfl) dX0_init_10 (fun H locs hP hD hS => ?_)
  have hP : va_P D vwCl ([(q, .inr (0, [.ref q1, .null, .null, .null, .null, .null, .int 0])), (q1, .inl (cI, 2000, .inl (fun _ => 0)))]) H := hP
  have hD : va_D A ([(q, .inr (0, [.ref q1, .null, .null, .null, .null, .null, .int 0])), (q1, .inl (cI, 2000, .inl (fun _ => 0)))]) := hD
  refine lv_aload_n hx hb dX0_init_13 rfl (lv_at hl 0 rfl) ?_
  refine lv_sipush (v := 2000) hx hb dX0_init_14 rfl ?_
  refine va_newa (atype := .int) (a0 := (2000, .inl (fun _ => 0))) (N' := 2000) hx hb (hts (.arrayClass .int) (by decide +kernel)) rfl hK hP hD hS hA (fun _ => rfl) (by decide) rfl (by decide) (Nat.le_of_ble_eq_true rfl) (Nat.le_of_ble_eq_true rfl) dX0_init_17 (fun q2 cA H hK9 hP hD hS => ?_)
  obtain rfl := cA_int hK9
  have hP : va_P D vwCl ([(q, .inr (0, [.ref q1, .null, .null, .null, .null, .null, .int 0])), (q1, .inl (cI, 2000, .inl (fun _ => 0))), (q2, .inl (cI, 2000, .inl (fun _ => 0)))]) H := hP
  have hD : va_D A ([(q, .inr (0, [.ref q1, .null, .null, .null, .null, .null, .int 0])), (q1, .inl (cI, 2000, .inl (fun _ => 0))), (q2, .inl (cI, 2000, .inl (fun _ => 0)))]) := hD
  refine va_putF (D := D) (ci := 0) (v := .ref q2) (ty := .array .int) (C := RX0) (T := TX0) (N := 7) hx hb hts in_X0_init_X0 tyX0 tyX0_ok nmX0 hown hK hP hD hS 0 rfl rfl 1 (by decide) (hts (.fieldLink RX0 15 "TermLoom$Bindings" "variableTypes" "[I") (by decide +kernel)) (fun _ h9 => h9) rfl hin rfl (by decide +kernel) rfl rfl (Nat.le_of_ble_eq_true rfl) dX0_init_19 (fun H locs hP hD hS => ?_)
  have hP : va_P D vwCl ([(q, .inr (0, [.ref q1, .ref q2, .null, .null, .null, .null, .int 0])), (q1, .inl (cI, 2000, .inl (fun _ => 0))), (q2, .inl (cI, 2000, .inl (fun _ => 0)))]) H := hP
  have hD : va_D A ([(q, .inr (0, [.ref q1, .ref q2, .null, .null, .null, .null, .int 0])), (q1, .inl (cI, 2000, .inl (fun _ => 0))), (q2, .inl (cI, 2000, .inl (fun _ => 0)))]) := hD
  refine lv_aload_n hx hb dX0_init_22 rfl (lv_at hl 0 rfl) ?_
  refine lv_sipush (v := 2000) hx hb dX0_init_23 rfl ?_
  refine va_newa (atype := .int) (a0 := (2000, .inl (fun _ => 0))) (N' := 2000) hx hb (hts (.arrayClass .int) (by decide +kernel)) rfl hK hP hD hS hA (fun _ => rfl) (by decide) rfl (by decide) (Nat.le_of_ble_eq_true rfl) (Nat.le_of_ble_eq_true rfl) dX0_init_26 (fun q3 cA H hK9 hP hD hS => ?_)
  obtain rfl := cA_int hK9
  have hP : va_P D vwCl ([(q, .inr (0, [.ref q1, .ref q2, .null, .null, .null, .null, .int 0])), (q1, .inl (cI, 2000, .inl (fun _ => 0))), (q2, .inl (cI, 2000, .inl (fun _ => 0))), (q3, .inl (cI, 2000, .inl (fun _ => 0)))]) H := hP
  have hD : va_D A ([(q, .inr (0, [.ref q1, .ref q2, .null, .null, .null, .null, .int 0])), (q1, .inl (cI, 2000, .inl (fun _ => 0))), (q2, .inl (cI, 2000, .inl (fun _ => 0))), (q3, .inl (cI, 2000, .inl (fun _ => 0)))]) := hD
  refine va_putF (D := D) (ci := 0) (v := .ref q3) (ty := .array .int) (C := RX0) (T := TX0) (N := 7) hx hb hts in_X0_init_X0 tyX0 tyX0_ok nmX0 hown hK hP hD hS 0 rfl rfl 2 (by decide) (hts (.fieldLink RX0 18 "TermLoom$Bindings" "froms" "[I") (by decide +kernel)) (fun _ h9 => h9) rfl hin rfl (by decide +kernel) rfl rfl (Nat.le_of_ble_eq_true rfl) dX0_init_28 (fun H locs hP hD hS => ?_)
  have hP : va_P D vwCl ([(q, .inr (0, [.ref q1, .ref q2, .ref q3, .null, .null, .null, .int 0])), (q1, .inl (cI, 2000, .inl (fun _ => 0))), (q2, .inl (cI, 2000, .inl (fun _ => 0))), (q3, .inl (cI, 2000, .inl (fun _ => 0)))]) H := hP
  have hD : va_D A ([(q, .inr (0, [.ref q1, .ref q2, .ref q3, .null, .null, .null, .int 0])), (q1, .inl (cI, 2000, .inl (fun _ => 0))), (q2, .inl (cI, 2000, .inl (fun _ => 0))), (q3, .inl (cI, 2000, .inl (fun _ => 0)))]) := hD
  refine lv_aload_n hx hb dX0_init_31 rfl (lv_at hl 0 rfl) ?_
  refine lv_sipush (v := 2000) hx hb dX0_init_32 rfl ?_
  refine va_newa (atype := .int) (a0 := (2000, .inl (fun _ => 0))) (N' := 2000) hx hb (hts (.arrayClass .int) (by decide +kernel)) rfl hK hP hD hS hA (fun _ => rfl) (by decide) rfl (by decide) (Nat.le_of_ble_eq_true rfl) (Nat.le_of_ble_eq_true rfl) dX0_init_35 (fun q4 cA H hK9 hP hD hS => ?_)
  obtain rfl := cA_int hK9
  have hP : va_P D vwCl ([(q, .inr (0, [.ref q1, .ref q2, .ref q3, .null, .null, .null, .int 0])), (q1, .inl (cI, 2000, .inl (fun _ => 0))), (q2, .inl (cI, 2000, .inl (fun _ => 0))), (q3, .inl (cI, 2000, .inl (fun _ => 0))), (q4, .inl (cI, 2000, .inl (fun _ => 0)))]) H := hP
  have hD : va_D A ([(q, .inr (0, [.ref q1, .ref q2, .ref q3, .null, .null, .null, .int 0])), (q1, .inl (cI, 2000, .inl (fun _ => 0))), (q2, .inl (cI, 2000, .inl (fun _ => 0))), (q3, .inl (cI, 2000, .inl (fun _ => 0))), (q4, .inl (cI, 2000, .inl (fun _ => 0)))]) := hD
  refine va_putF (D := D) (ci := 0) (v := .ref q4) (ty := .array .int) (C := RX0) (T := TX0) (N := 7) hx hb hts in_X0_init_X0 tyX0 tyX0_ok nmX0 hown hK hP hD hS 0 rfl rfl 3 (by decide) (hts (.fieldLink RX0 21 "TermLoom$Bindings" "ends" "[I") (by decide +kernel)) (fun _ h9 => h9) rfl hin rfl (by decide +kernel) rfl rfl (Nat.le_of_ble_eq_true rfl) dX0_init_37 (fun H locs hP hD hS => ?_)
  have hP : va_P D vwCl ([(q, .inr (0, [.ref q1, .ref q2, .ref q3, .ref q4, .null, .null, .int 0])), (q1, .inl (cI, 2000, .inl (fun _ => 0))), (q2, .inl (cI, 2000, .inl (fun _ => 0))), (q3, .inl (cI, 2000, .inl (fun _ => 0))), (q4, .inl (cI, 2000, .inl (fun _ => 0)))]) H := hP
  have hD : va_D A ([(q, .inr (0, [.ref q1, .ref q2, .ref q3, .ref q4, .null, .null, .int 0])), (q1, .inl (cI, 2000, .inl (fun _ => 0))), (q2, .inl (cI, 2000, .inl (fun _ => 0))), (q3, .inl (cI, 2000, .inl (fun _ => 0))), (q4, .inl (cI, 2000, .inl (fun _ => 0)))]) := hD
  refine lv_aload_n hx hb dX0_init_40 rfl (lv_at hl 0 rfl) ?_
  refine lv_sipush (v := 2000) hx hb dX0_init_41 rfl ?_
  refine va_newa (atype := .int) (a0 := (2000, .inl (fun _ => 0))) (N' := 2000) hx hb (hts (.arrayClass .int) (by decide +kernel)) rfl hK hP hD hS hA (fun _ => rfl) (by decide) rfl (by decide) (Nat.le_of_ble_eq_true rfl) (Nat.le_of_ble_eq_true rfl) dX0_init_44 (fun q5 cA H hK9 hP hD hS => ?_)
  obtain rfl := cA_int hK9
  have hP : va_P D vwCl ([(q, .inr (0, [.ref q1, .ref q2, .ref q3, .ref q4, .null, .null, .int 0])), (q1, .inl (cI, 2000, .inl (fun _ => 0))), (q2, .inl (cI, 2000, .inl (fun _ => 0))), (q3, .inl (cI, 2000, .inl (fun _ => 0))), (q4, .inl (cI, 2000, .inl (fun _ => 0))), (q5, .inl (cI, 2000, .inl (fun _ => 0)))]) H := hP
  have hD : va_D A ([(q, .inr (0, [.ref q1, .ref q2, .ref q3, .ref q4, .null, .null, .int 0])), (q1, .inl (cI, 2000, .inl (fun _ => 0))), (q2, .inl (cI, 2000, .inl (fun _ => 0))), (q3, .inl (cI, 2000, .inl (fun _ => 0))), (q4, .inl (cI, 2000, .inl (fun _ => 0))), (q5, .inl (cI, 2000, .inl (fun _ => 0)))]) := hD
  refine va_putF (D := D) (ci := 0) (v := .ref q5) (ty := .array .int) (C := RX0) (T := TX0) (N := 7) hx hb hts in_X0_init_X0 tyX0 tyX0_ok nmX0 hown hK hP hD hS 0 rfl rfl 4 (by decide) (hts (.fieldLink RX0 24 "TermLoom$Bindings" "older" "[I") (by decide +kernel)) (fun _ h9 => h9) rfl hin rfl (by decide +kernel) rfl rfl (Nat.le_of_ble_eq_true rfl) dX0_init_46 (fun H locs hP hD hS => ?_)
  have hP : va_P D vwCl ([(q, .inr (0, [.ref q1, .ref q2, .ref q3, .ref q4, .ref q5, .null, .int 0])), (q1, .inl (cI, 2000, .inl (fun _ => 0))), (q2, .inl (cI, 2000, .inl (fun _ => 0))), (q3, .inl (cI, 2000, .inl (fun _ => 0))), (q4, .inl (cI, 2000, .inl (fun _ => 0))), (q5, .inl (cI, 2000, .inl (fun _ => 0)))]) H := hP
  have hD : va_D A ([(q, .inr (0, [.ref q1, .ref q2, .ref q3, .ref q4, .ref q5, .null, .int 0])), (q1, .inl (cI, 2000, .inl (fun _ => 0))), (q2, .inl (cI, 2000, .inl (fun _ => 0))), (q3, .inl (cI, 2000, .inl (fun _ => 0))), (q4, .inl (cI, 2000, .inl (fun _ => 0))), (q5, .inl (cI, 2000, .inl (fun _ => 0)))]) := hD
  refine lv_aload_n hx hb dX0_init_49 rfl (lv_at hl 0 rfl) ?_
  refine lv_sipush (v := 1000) hx hb dX0_init_50 rfl ?_
  refine va_newa (atype := .int) (a0 := (1000, .inl (fun _ => 0))) (N' := 1000) hx hb (hts (.arrayClass .int) (by decide +kernel)) rfl hK hP hD hS hA (fun _ => rfl) (by decide) rfl (by decide) (Nat.le_of_ble_eq_true rfl) (Nat.le_of_ble_eq_true rfl) dX0_init_53 (fun q6 cA H hK9 hP hD hS => ?_)
  obtain rfl := cA_int hK9
  have hP : va_P D vwCl ([(q, .inr (0, [.ref q1, .ref q2, .ref q3, .ref q4, .ref q5, .null, .int 0])), (q1, .inl (cI, 2000, .inl (fun _ => 0))), (q2, .inl (cI, 2000, .inl (fun _ => 0))), (q3, .inl (cI, 2000, .inl (fun _ => 0))), (q4, .inl (cI, 2000, .inl (fun _ => 0))), (q5, .inl (cI, 2000, .inl (fun _ => 0))), (q6, .inl (cI, 1000, .inl (fun _ => 0)))]) H := hP
  have hD : va_D A ([(q, .inr (0, [.ref q1, .ref q2, .ref q3, .ref q4, .ref q5, .null, .int 0])), (q1, .inl (cI, 2000, .inl (fun _ => 0))), (q2, .inl (cI, 2000, .inl (fun _ => 0))), (q3, .inl (cI, 2000, .inl (fun _ => 0))), (q4, .inl (cI, 2000, .inl (fun _ => 0))), (q5, .inl (cI, 2000, .inl (fun _ => 0))), (q6, .inl (cI, 1000, .inl (fun _ => 0)))]) := hD
  refine va_putF (D := D) (ci := 0) (v := .ref q6) (ty := .array .int) (C := RX0) (T := TX0) (N := 7) hx hb hts in_X0_init_X0 tyX0 tyX0_ok nmX0 hown hK hP hD hS 0 rfl rfl 5 (by decide) (hts (.fieldLink RX0 27 "TermLoom$Bindings" "newest" "[I") (by decide +kernel)) (fun _ h9 => h9) rfl hin rfl (by decide +kernel) rfl rfl (Nat.le_of_ble_eq_true rfl) dX0_init_55 (fun H locs hP hD hS => ?_)
  have hP : va_P D vwCl ([(q, .inr (0, [.ref q1, .ref q2, .ref q3, .ref q4, .ref q5, .ref q6, .int 0])), (q1, .inl (cI, 2000, .inl (fun _ => 0))), (q2, .inl (cI, 2000, .inl (fun _ => 0))), (q3, .inl (cI, 2000, .inl (fun _ => 0))), (q4, .inl (cI, 2000, .inl (fun _ => 0))), (q5, .inl (cI, 2000, .inl (fun _ => 0))), (q6, .inl (cI, 1000, .inl (fun _ => 0)))]) H := hP
  have hD : va_D A ([(q, .inr (0, [.ref q1, .ref q2, .ref q3, .ref q4, .ref q5, .ref q6, .int 0])), (q1, .inl (cI, 2000, .inl (fun _ => 0))), (q2, .inl (cI, 2000, .inl (fun _ => 0))), (q3, .inl (cI, 2000, .inl (fun _ => 0))), (q4, .inl (cI, 2000, .inl (fun _ => 0))), (q5, .inl (cI, 2000, .inl (fun _ => 0))), (q6, .inl (cI, 1000, .inl (fun _ => 0)))]) := hD
  refine lv_aload_n hx hb dX0_init_58 rfl (lv_at hl 0 rfl) ?_
  refine va_get (D := D) (ci := 0) (v := .ref q6) (C := RX0) (T := TX0) (N := 7) hx hb hts in_X0_init_X0 hown hK hP 0 rfl rfl 5 (by decide) (hts (.fieldLink RX0 27 "TermLoom$Bindings" "newest" "[I") (by decide +kernel)) (fun _ h9 => h9) rfl dX0_init_59 ?_
  refine lv_iconst (v := (-1)) hx hb dX0_init_62 rfl ?_
  refine mg_v (ws' := [(q, .inr (0, [.ref q1, .ref q2, .ref q3, .ref q4, .ref q5, .ref q6, .int 0])), (q1, .inl (cI, 2000, .inl (fun _ => 0))), (q2, .inl (cI, 2000, .inl (fun _ => 0))), (q3, .inl (cI, 2000, .inl (fun _ => 0))), (q4, .inl (cI, 2000, .inl (fun _ => 0))), (q5, .inl (cI, 2000, .inl (fun _ => 0))), (q6, .inl (cI, 1000, .inl g))]) (wr := ([(q, .inr (0, [.ref q1, .ref q2, .ref q3, .ref q4, .ref q5, .ref q6, .int 0])), (q1, .inl (cI, 2000, .inl (fun _ => 0))), (q2, .inl (cI, 2000, .inl (fun _ => 0))), (q3, .inl (cI, 2000, .inl (fun _ => 0))), (q4, .inl (cI, 2000, .inl (fun _ => 0))), (q5, .inl (cI, 2000, .inl (fun _ => 0))), (q6, .inl (cI, 1000, .inl (fun _ => 0)))]).eraseIdx 6) [6] [0, 1, 2, 3, 4, 5] [0, 1, 2, 3, 4, 5, 6] (va_runS (As := [.ref q6, .int (-1)]) (rest := []) ⟨hx, hb, hml, hown, hts⟩ (c_J7_fill_53178 l D cI cZ q6 1000 N (fun _ => 0) (-1) g hg H.size) (va_cwS 2 hts gX0_init_J7_fill_53178 rfl rfl rfl (by decide +kernel) ⟨Nat.le_of_ble_eq_true rfl, Nat.le_of_ble_eq_true rfl⟩) (pS [6] hP hD hK hN rfl rfl) rfl rfl hl.1 rfl (lv_room (Nat.le_of_ble_eq_true rfl)) dX0_init_63 ⟨Nat.le_of_ble_eq_true rfl, Nat.le_of_ble_eq_true rfl⟩) hP hD hS hA rfl rfl rfl (by decide) rfl rfl (fun H locs hP hD hS => ?_)
  exact ret_n (adL [q, q1, q2, q3, q4, q5, q6]) C0 rfl hP hD hS dX0_init_66 (by decide) (by decide)
