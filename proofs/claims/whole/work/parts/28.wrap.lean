def f_L_constructor (N : Nat) (x y t k b : St) (o : Nat → Int64) (x1 : Int32) : Option (Int32 × SL) := (f_X4_constructor N x y t k b x1).bind (fun q1 => exL q1.1 (fun r1 => bnd (vp_updL o (Int32.toNatClampNeg 0) (Int32.toInt64 r1)) (fun o1 => some (0, (q1.2, o1)))) (fun k => if k = 0 then some (1, (q1.2, o)) else if k = 1 then some (2, (q1.2, o)) else none))
set_option maxHeartbeats 4000000 in
set_option maxRecDepth 100000 in
theorem c_L_constructor (l : Launch) (hlt : l.stackTraces = false) (D : va_G) (cI cZ cJ : ClassId) (sa : Nat → Nat) (a4 a2 a1 a3 a0 : Nat → Nat) (ao : Nat) (N : Nat) (x y t k b : St) (o : Nat → Int64) (x1 : Int32) : ML9 l yL_constructor wsL_constructor ({ frames := 7, cells := 1, slots := 6, locals := 103 } : Room) D cI cZ cJ sa (wL4 a4 a2 a1 a3 a0 ao cI cZ cJ) [.ref (a4 0), .int x1, .ref ao] ((x, y, t, k, b), o) 1 6 (f_L_constructor N x y t k b o x1) := by
  refine ML9.of (cc := cL_constructor) (maxL := 4) (ret := (some .int)) (hh := [(0, 9, 12, 13), (0, 9, 15, 15)]) (own := RL) (by decide) rfl rfl (Nat.le_of_ble_eq_true rfl) ?_
  intro r u1 h p e s m args below meth c A C0 H locs ls hP hD hS hl
  obtain ⟨hx, hb, hml, hr, hown, hts, hlocks, hA, hK3, hN, hX, hT, hC⟩ := id C0
  have hK : va_K D vwCl (kT cI cZ) s := hK3.sub [0, 1] rfl
  have hl : lv_has ls 4 [(0, .ref (a4 0)), (1, .int x1), (2, .ref ao)] := hl
  unfold f_L_constructor at h
  refine lv_aload_n hx hb dL_constructor_0 rfl (lv_at hl 2 rfl) ?_
  refine lv_iconst (v := 0) hx hb dL_constructor_1 rfl ?_
  refine lv_aload_n hx hb dL_constructor_2 rfl (lv_at hl 0 rfl) ?_
  refine lv_iload_n hx hb dL_constructor_3 rfl (lv_at hl 1 rfl) ?_
  obtain ⟨q1, hq1, h⟩ := ob h
  refine ml_i (ws' := wL4 a4 a2 a1 a3 a0 ao cI cZ cJ (q1.2, o)) (wr := wO ao cJ o) [0, 1, 2, 3, 4, 5, 6, 7, 8, 9, 10, 11, 12, 13, 14, 15, 16, 17, 18, 19, 20, 21, 22, 23, 24, 25, 26, 27, 28] [29] [1, 2, 3, 4, 5, 6, 7, 8, 9, 10, 11, 12, 13, 14, 15, 16, 17, 18, 19, 20, 21, 22, 23, 24, 25, 26, 27, 28, 29, 0] (vx_runV (As := [.int x1]) (rest := [.int 0, .ref ao]) ⟨hx, hb, hml, hown, hts⟩ (c_X4_constructor l hlt D cI cZ sa a4 a2 a1 a3 a0 N x y t k b x1 q1.1 q1.2 hq1 H.size) (cwV 1 hts gL_constructor_X4_constructor rfl rfl rfl (by decide +kernel) ⟨Nat.le_of_ble_eq_true rfl, Nat.le_of_ble_eq_true rfl⟩) (pXV [0, 1, 2, 3, 4, 5, 6, 7, 8, 9, 10, 11, 12, 13, 14, 15, 16, 17, 18, 19, 20, 21, 22, 23, 24, 25, 26, 27, 28] hP hD hS hA hK hN hX rfl rfl rfl rfl) rfl rfl hl.1 rfl (lv_room (Nat.le_of_ble_eq_true rfl)) dL_constructor_4 ⟨Nat.le_of_ble_eq_true rfl, Nat.le_of_ble_eq_true rfl⟩) hP hD hS hA rfl rfl rfl (by decide) rfl rfl (fun k9 hk9 ce q9 H locs hP hD hS hce hcv hcl => ?_) (fun r1 hr9 H locs hP hD hS => ?_)
  · rw [hk9, exL_inr] at h
    by_cases hk0 : k9 = 0
    · rw [if_pos hk0] at h
      subst hk0
      obtain ⟨rfl, rfl⟩ := so h
      refine cx_catch (E := exN 0) (name := exN 0) hown [] ⟨0, 9, 12, 13⟩ [⟨0, 9, 15, 15⟩] hT (fun z hz => by cases hz) (by decide) (by decide) (hts (.classLink RL 13 "java/lang/IllegalArgumentException") (by decide +kernel)) (hX.cast 0) hce hcv hcl ?_
      refine lv_astore_n (lv' := [(3, .ref q9), (0, .ref (a4 0)), (1, .int x1), (2, .ref ao)]) hx hb dL_constructor_12 rfl hl (by decide) rfl (fun ls hl => ?_)
      refine lv_iconst (v := 1) hx hb dL_constructor_13 rfl ?_
      exact lret_i C0 hP hD hS dL_constructor_14 (by decide) (by decide)
    rw [if_neg hk0] at h
    by_cases hk1 : k9 = 1
    · rw [if_pos hk1] at h
      subst hk1
      obtain ⟨rfl, rfl⟩ := so h
      refine cx_catch (E := exN 1) (name := exN 1) hown [⟨0, 9, 12, 13⟩] ⟨0, 9, 15, 15⟩ [] hT (fun z hz => ?_) (by decide) (by decide) (hts (.classLink RL 15 "java/lang/IllegalStateException") (by decide +kernel)) (hX.cast 1) hce hcv hcl ?_
      · simp only [List.mem_cons, List.not_mem_nil, or_false] at hz
        rcases hz with rfl
        · exact Or.inr ⟨by decide, "java/lang/IllegalArgumentException", hts (.classLink RL 13 "java/lang/IllegalArgumentException") (by decide +kernel), hC ("java/lang/IllegalStateException", "java/lang/IllegalArgumentException") (by decide)⟩
      refine lv_astore_n (lv' := [(3, .ref q9), (0, .ref (a4 0)), (1, .int x1), (2, .ref ao)]) hx hb dL_constructor_15 rfl hl (by decide) rfl (fun ls hl => ?_)
      refine lv_iconst (v := 2) hx hb dL_constructor_16 rfl ?_
      exact lret_i C0 hP hD hS dL_constructor_17 (by decide) (by decide)
    rw [if_neg hk1] at h
    exact no h
  · rw [hr9, exL_inl] at h
    refine lv_i2l (v := Int32.toInt64 r1) hx hb dL_constructor_7 rfl ?_
    refine va_last (f := o) hx hb hK3 hP hD hS 29 2 rfl rfl (i := 0) (x := (Int32.toInt64 r1)) (by unfold vp_in; decide) dL_constructor_8 (fun H locs hP hD hS => ?_)
    obtain ⟨o1, eo1, h⟩ := bn h
    have hP : va_P D vwCl (wL4 a4 a2 a1 a3 a0 ao cI cZ cJ (q1.2, o1)) H := by rw [eo1]; exact hP
    have hD : va_D A (wL4 a4 a2 a1 a3 a0 ao cI cZ cJ (q1.2, o1)) := by rw [eo1]; exact hD
    refine lv_goto (tgt := 18) hx hb dL_constructor_9 (by decide) ?_
    refine lv_iconst (v := 0) hx hb dL_constructor_18 rfl ?_
    obtain ⟨rfl, rfl⟩ := so h
    exact lret_i C0 hP hD hS dL_constructor_19 (by decide) (by decide)

def f_L_typeVariable (N : Nat) (x y t k b : St) (o : Nat → Int64) (x1 : Int32) : Option (Int32 × SL) := (f_X4_typeVariable N x y t k b x1).bind (fun q1 => exL q1.1 (fun r1 => bnd (vp_updL o (Int32.toNatClampNeg 0) (Int32.toInt64 r1)) (fun o1 => some (0, (q1.2, o1)))) (fun k => if k = 0 then some (1, (q1.2, o)) else if k = 1 then some (2, (q1.2, o)) else none))
set_option maxHeartbeats 4000000 in
set_option maxRecDepth 100000 in
theorem c_L_typeVariable (l : Launch) (hlt : l.stackTraces = false) (D : va_G) (cI cZ cJ : ClassId) (sa : Nat → Nat) (a4 a2 a1 a3 a0 : Nat → Nat) (ao : Nat) (N : Nat) (x y t k b : St) (o : Nat → Int64) (x1 : Int32) : ML9 l yL_typeVariable wsL_typeVariable ({ frames := 8, cells := 2, slots := 12, locals := 126 } : Room) D cI cZ cJ sa (wL4 a4 a2 a1 a3 a0 ao cI cZ cJ) [.ref (a4 0), .int x1, .ref ao] ((x, y, t, k, b), o) 2 12 (f_L_typeVariable N x y t k b o x1) := by
  refine ML9.of (cc := cL_typeVariable) (maxL := 4) (ret := (some .int)) (hh := [(0, 9, 12, 13), (0, 9, 15, 15)]) (own := RL) (by decide) rfl rfl (Nat.le_of_ble_eq_true rfl) ?_
  intro r u1 h p e s m args below meth c A C0 H locs ls hP hD hS hl
  obtain ⟨hx, hb, hml, hr, hown, hts, hlocks, hA, hK3, hN, hX, hT, hC⟩ := id C0
  have hK : va_K D vwCl (kT cI cZ) s := hK3.sub [0, 1] rfl
  have hl : lv_has ls 4 [(0, .ref (a4 0)), (1, .int x1), (2, .ref ao)] := hl
  unfold f_L_typeVariable at h
  refine lv_aload_n hx hb dL_typeVariable_0 rfl (lv_at hl 2 rfl) ?_
  refine lv_iconst (v := 0) hx hb dL_typeVariable_1 rfl ?_
  refine lv_aload_n hx hb dL_typeVariable_2 rfl (lv_at hl 0 rfl) ?_
  refine lv_iload_n hx hb dL_typeVariable_3 rfl (lv_at hl 1 rfl) ?_
  obtain ⟨q1, hq1, h⟩ := ob h
  refine ml_i (ws' := wL4 a4 a2 a1 a3 a0 ao cI cZ cJ (q1.2, o)) (wr := wO ao cJ o) [0, 1, 2, 3, 4, 5, 6, 7, 8, 9, 10, 11, 12, 13, 14, 15, 16, 17, 18, 19, 20, 21, 22, 23, 24, 25, 26, 27, 28] [29] [1, 2, 3, 4, 5, 6, 7, 8, 9, 10, 11, 12, 13, 14, 15, 16, 17, 18, 19, 20, 21, 22, 23, 24, 25, 26, 27, 28, 29, 0] (vx_runV (As := [.int x1]) (rest := [.int 0, .ref ao]) ⟨hx, hb, hml, hown, hts⟩ (c_X4_typeVariable l hlt D cI cZ sa a4 a2 a1 a3 a0 N x y t k b x1 q1.1 q1.2 hq1 H.size) (cwV 1 hts gL_typeVariable_X4_typeVariable rfl rfl rfl (by decide +kernel) ⟨Nat.le_of_ble_eq_true rfl, Nat.le_of_ble_eq_true rfl⟩) (pXV [0, 1, 2, 3, 4, 5, 6, 7, 8, 9, 10, 11, 12, 13, 14, 15, 16, 17, 18, 19, 20, 21, 22, 23, 24, 25, 26, 27, 28] hP hD hS hA hK hN hX rfl rfl rfl rfl) rfl rfl hl.1 rfl (lv_room (Nat.le_of_ble_eq_true rfl)) dL_typeVariable_4 ⟨Nat.le_of_ble_eq_true rfl, Nat.le_of_ble_eq_true rfl⟩) hP hD hS hA rfl rfl rfl (by decide) rfl rfl (fun k9 hk9 ce q9 H locs hP hD hS hce hcv hcl => ?_) (fun r1 hr9 H locs hP hD hS => ?_)
  · rw [hk9, exL_inr] at h
    by_cases hk0 : k9 = 0
    · rw [if_pos hk0] at h
      subst hk0
      obtain ⟨rfl, rfl⟩ := so h
      refine cx_catch (E := exN 0) (name := exN 0) hown [] ⟨0, 9, 12, 13⟩ [⟨0, 9, 15, 15⟩] hT (fun z hz => by cases hz) (by decide) (by decide) (hts (.classLink RL 13 "java/lang/IllegalArgumentException") (by decide +kernel)) (hX.cast 0) hce hcv hcl ?_
      refine lv_astore_n (lv' := [(3, .ref q9), (0, .ref (a4 0)), (1, .int x1), (2, .ref ao)]) hx hb dL_typeVariable_12 rfl hl (by decide) rfl (fun ls hl => ?_)
      refine lv_iconst (v := 1) hx hb dL_typeVariable_13 rfl ?_
      exact lret_i C0 hP hD hS dL_typeVariable_14 (by decide) (by decide)
    rw [if_neg hk0] at h
    by_cases hk1 : k9 = 1
    · rw [if_pos hk1] at h
      subst hk1
      obtain ⟨rfl, rfl⟩ := so h
      refine cx_catch (E := exN 1) (name := exN 1) hown [⟨0, 9, 12, 13⟩] ⟨0, 9, 15, 15⟩ [] hT (fun z hz => ?_) (by decide) (by decide) (hts (.classLink RL 15 "java/lang/IllegalStateException") (by decide +kernel)) (hX.cast 1) hce hcv hcl ?_
      · simp only [List.mem_cons, List.not_mem_nil, or_false] at hz
        rcases hz with rfl
        · exact Or.inr ⟨by decide, "java/lang/IllegalArgumentException", hts (.classLink RL 13 "java/lang/IllegalArgumentException") (by decide +kernel), hC ("java/lang/IllegalStateException", "java/lang/IllegalArgumentException") (by decide)⟩
      refine lv_astore_n (lv' := [(3, .ref q9), (0, .ref (a4 0)), (1, .int x1), (2, .ref ao)]) hx hb dL_typeVariable_15 rfl hl (by decide) rfl (fun ls hl => ?_)
      refine lv_iconst (v := 2) hx hb dL_typeVariable_16 rfl ?_
      exact lret_i C0 hP hD hS dL_typeVariable_17 (by decide) (by decide)
    rw [if_neg hk1] at h
    exact no h
  · rw [hr9, exL_inl] at h
    refine lv_i2l (v := Int32.toInt64 r1) hx hb dL_typeVariable_7 rfl ?_
    refine va_last (f := o) hx hb hK3 hP hD hS 29 2 rfl rfl (i := 0) (x := (Int32.toInt64 r1)) (by unfold vp_in; decide) dL_typeVariable_8 (fun H locs hP hD hS => ?_)
    obtain ⟨o1, eo1, h⟩ := bn h
    have hP : va_P D vwCl (wL4 a4 a2 a1 a3 a0 ao cI cZ cJ (q1.2, o1)) H := by rw [eo1]; exact hP
    have hD : va_D A (wL4 a4 a2 a1 a3 a0 ao cI cZ cJ (q1.2, o1)) := by rw [eo1]; exact hD
    refine lv_goto (tgt := 18) hx hb dL_typeVariable_9 (by decide) ?_
    refine lv_iconst (v := 0) hx hb dL_typeVariable_18 rfl ?_
    obtain ⟨rfl, rfl⟩ := so h
    exact lret_i C0 hP hD hS dL_typeVariable_19 (by decide) (by decide)

def f_L_type (N : Nat) (x y t k b : St) (o : Nat → Int64) (x1 x2 x3 : Int32) : Option (Int32 × SL) := (f_X4_type N x y t k b x1 x2 x3).bind (fun q1 => exL q1.1 (fun r1 => bnd (vp_updL o (Int32.toNatClampNeg 0) (Int32.toInt64 r1)) (fun o1 => some (0, (q1.2, o1)))) (fun k => if k = 0 then some (1, (q1.2, o)) else if k = 2 then some (2, (q1.2, o)) else if k = 1 then some (3, (q1.2, o)) else none))
set_option maxHeartbeats 4000000 in
set_option maxRecDepth 100000 in
theorem c_L_type (l : Launch) (hlt : l.stackTraces = false) (D : va_G) (cI cZ cJ : ClassId) (sa : Nat → Nat) (a4 a2 a1 a3 a0 : Nat → Nat) (ao : Nat) (N : Nat) (x y t k b : St) (o : Nat → Int64) (x1 x2 x3 : Int32) : ML9 l yL_type wsL_type ({ frames := 8, cells := 3, slots := 18, locals := 131 } : Room) D cI cZ cJ sa (wL4 a4 a2 a1 a3 a0 ao cI cZ cJ) [.ref (a4 0), .int x1, .int x2, .int x3, .ref ao] ((x, y, t, k, b), o) 3 18 (f_L_type N x y t k b o x1 x2 x3) := by
  refine ML9.of (cc := cL_type) (maxL := 6) (ret := (some .int)) (hh := [(0, 12, 15, 13), (0, 12, 19, 24), (0, 12, 23, 15)]) (own := RL) (by decide) rfl rfl (Nat.le_of_ble_eq_true rfl) ?_
  intro r u1 h p e s m args below meth c A C0 H locs ls hP hD hS hl
  obtain ⟨hx, hb, hml, hr, hown, hts, hlocks, hA, hK3, hN, hX, hT, hC⟩ := id C0
  have hK : va_K D vwCl (kT cI cZ) s := hK3.sub [0, 1] rfl
  have hl : lv_has ls 6 [(0, .ref (a4 0)), (1, .int x1), (2, .int x2), (3, .int x3), (4, .ref ao)] := hl
  unfold f_L_type at h
  refine lv_aload hx hb dL_type_0 (lv_at hl 4 rfl) ?_
  refine lv_iconst (v := 0) hx hb dL_type_2 rfl ?_
  refine lv_aload_n hx hb dL_type_3 rfl (lv_at hl 0 rfl) ?_
  refine lv_iload_n hx hb dL_type_4 rfl (lv_at hl 1 rfl) ?_
  refine lv_iload_n hx hb dL_type_5 rfl (lv_at hl 2 rfl) ?_
  refine lv_iload_n hx hb dL_type_6 rfl (lv_at hl 3 rfl) ?_
  obtain ⟨q1, hq1, h⟩ := ob h
  refine ml_i (ws' := wL4 a4 a2 a1 a3 a0 ao cI cZ cJ (q1.2, o)) (wr := wO ao cJ o) [0, 1, 2, 3, 4, 5, 6, 7, 8, 9, 10, 11, 12, 13, 14, 15, 16, 17, 18, 19, 20, 21, 22, 23, 24, 25, 26, 27, 28] [29] [1, 2, 3, 4, 5, 6, 7, 8, 9, 10, 11, 12, 13, 14, 15, 16, 17, 18, 19, 20, 21, 22, 23, 24, 25, 26, 27, 28, 29, 0] (vx_runV (As := [.int x1, .int x2, .int x3]) (rest := [.int 0, .ref ao]) ⟨hx, hb, hml, hown, hts⟩ (c_X4_type l hlt D cI cZ sa a4 a2 a1 a3 a0 N x y t k b x1 x2 x3 q1.1 q1.2 hq1 H.size) (cwV 3 hts gL_type_X4_type rfl rfl rfl (by decide +kernel) ⟨Nat.le_of_ble_eq_true rfl, Nat.le_of_ble_eq_true rfl⟩) (pXV [0, 1, 2, 3, 4, 5, 6, 7, 8, 9, 10, 11, 12, 13, 14, 15, 16, 17, 18, 19, 20, 21, 22, 23, 24, 25, 26, 27, 28] hP hD hS hA hK hN hX rfl rfl rfl rfl) rfl rfl hl.1 rfl (lv_room (Nat.le_of_ble_eq_true rfl)) dL_type_7 ⟨Nat.le_of_ble_eq_true rfl, Nat.le_of_ble_eq_true rfl⟩) hP hD hS hA rfl rfl rfl (by decide) rfl rfl (fun k9 hk9 ce q9 H locs hP hD hS hce hcv hcl => ?_) (fun r1 hr9 H locs hP hD hS => ?_)
  · rw [hk9, exL_inr] at h
    by_cases hk0 : k9 = 0
    · rw [if_pos hk0] at h
      subst hk0
      obtain ⟨rfl, rfl⟩ := so h
      refine cx_catch (E := exN 0) (name := exN 0) hown [] ⟨0, 12, 15, 13⟩ [⟨0, 12, 19, 24⟩, ⟨0, 12, 23, 15⟩] hT (fun z hz => by cases hz) (by decide) (by decide) (hts (.classLink RL 13 "java/lang/IllegalArgumentException") (by decide +kernel)) (hX.cast 0) hce hcv hcl ?_
      refine lv_astore (lv' := [(5, .ref q9), (0, .ref (a4 0)), (1, .int x1), (2, .int x2), (3, .int x3), (4, .ref ao)]) hx hb dL_type_15 hl (by decide) rfl (fun ls hl => ?_)
      refine lv_iconst (v := 1) hx hb dL_type_17 rfl ?_
      exact lret_i C0 hP hD hS dL_type_18 (by decide) (by decide)
    rw [if_neg hk0] at h
    by_cases hk2 : k9 = 2
    · rw [if_pos hk2] at h
      subst hk2
      obtain ⟨rfl, rfl⟩ := so h
      refine cx_catch (E := exN 2) (name := exN 2) hown [⟨0, 12, 15, 13⟩] ⟨0, 12, 19, 24⟩ [⟨0, 12, 23, 15⟩] hT (fun z hz => ?_) (by decide) (by decide) (hts (.classLink RL 24 "java/lang/IndexOutOfBoundsException") (by decide +kernel)) (hX.cast 2) hce hcv hcl ?_
      · simp only [List.mem_cons, List.not_mem_nil, or_false] at hz
        rcases hz with rfl
        · exact Or.inr ⟨by decide, "java/lang/IllegalArgumentException", hts (.classLink RL 13 "java/lang/IllegalArgumentException") (by decide +kernel), hC ("java/lang/IndexOutOfBoundsException", "java/lang/IllegalArgumentException") (by decide)⟩
      refine lv_astore (lv' := [(5, .ref q9), (0, .ref (a4 0)), (1, .int x1), (2, .int x2), (3, .int x3), (4, .ref ao)]) hx hb dL_type_19 hl (by decide) rfl (fun ls hl => ?_)
      refine lv_iconst (v := 2) hx hb dL_type_21 rfl ?_
      exact lret_i C0 hP hD hS dL_type_22 (by decide) (by decide)
    rw [if_neg hk2] at h
    by_cases hk1 : k9 = 1
    · rw [if_pos hk1] at h
      subst hk1
      obtain ⟨rfl, rfl⟩ := so h
      refine cx_catch (E := exN 1) (name := exN 1) hown [⟨0, 12, 15, 13⟩, ⟨0, 12, 19, 24⟩] ⟨0, 12, 23, 15⟩ [] hT (fun z hz => ?_) (by decide) (by decide) (hts (.classLink RL 15 "java/lang/IllegalStateException") (by decide +kernel)) (hX.cast 1) hce hcv hcl ?_
      · simp only [List.mem_cons, List.not_mem_nil, or_false] at hz
        rcases hz with rfl | rfl
        · exact Or.inr ⟨by decide, "java/lang/IllegalArgumentException", hts (.classLink RL 13 "java/lang/IllegalArgumentException") (by decide +kernel), hC ("java/lang/IllegalStateException", "java/lang/IllegalArgumentException") (by decide)⟩
        · exact Or.inr ⟨by decide, "java/lang/IndexOutOfBoundsException", hts (.classLink RL 24 "java/lang/IndexOutOfBoundsException") (by decide +kernel), hC ("java/lang/IllegalStateException", "java/lang/IndexOutOfBoundsException") (by decide)⟩
      refine lv_astore (lv' := [(5, .ref q9), (0, .ref (a4 0)), (1, .int x1), (2, .int x2), (3, .int x3), (4, .ref ao)]) hx hb dL_type_23 hl (by decide) rfl (fun ls hl => ?_)
      refine lv_iconst (v := 3) hx hb dL_type_25 rfl ?_
      exact lret_i C0 hP hD hS dL_type_26 (by decide) (by decide)
    rw [if_neg hk1] at h
    exact no h
  · rw [hr9, exL_inl] at h
    refine lv_i2l (v := Int32.toInt64 r1) hx hb dL_type_10 rfl ?_
    refine va_last (f := o) hx hb hK3 hP hD hS 29 2 rfl rfl (i := 0) (x := (Int32.toInt64 r1)) (by unfold vp_in; decide) dL_type_11 (fun H locs hP hD hS => ?_)
    obtain ⟨o1, eo1, h⟩ := bn h
    have hP : va_P D vwCl (wL4 a4 a2 a1 a3 a0 ao cI cZ cJ (q1.2, o1)) H := by rw [eo1]; exact hP
    have hD : va_D A (wL4 a4 a2 a1 a3 a0 ao cI cZ cJ (q1.2, o1)) := by rw [eo1]; exact hD
    refine lv_goto (tgt := 27) hx hb dL_type_12 (by decide) ?_
    refine lv_iconst (v := 0) hx hb dL_type_27 rfl ?_
    obtain ⟨rfl, rfl⟩ := so h
    exact lret_i C0 hP hD hS dL_type_28 (by decide) (by decide)

def f_L_typeSymbol (N : Nat) (x y t k b : St) (o : Nat → Int64) (x1 x2 : Int32) : Option (Int32 × SL) := (f_X4_typeSymbol N x y t k b x1 x2).bind (fun q1 => exL q1.1 (fun r1 => bnd (vp_updL o (Int32.toNatClampNeg 0) (Int32.toInt64 r1)) (fun o1 => some (0, (q1.2, o1)))) (fun k => if k = 2 then some (1, (q1.2, o)) else none))
set_option maxHeartbeats 4000000 in
set_option maxRecDepth 100000 in
theorem c_L_typeSymbol (l : Launch) (hlt : l.stackTraces = false) (D : va_G) (cI cZ cJ : ClassId) (sa : Nat → Nat) (a4 a2 a1 a3 a0 : Nat → Nat) (ao : Nat) (N : Nat) (x y t k b : St) (o : Nat → Int64) (x1 x2 : Int32) : ML9 l yL_typeSymbol wsL_typeSymbol ({ frames := 8, cells := 2, slots := 12, locals := 127 } : Room) D cI cZ cJ sa (wL4 a4 a2 a1 a3 a0 ao cI cZ cJ) [.ref (a4 0), .int x1, .int x2, .ref ao] ((x, y, t, k, b), o) 2 12 (f_L_typeSymbol N x y t k b o x1 x2) := by
  refine ML9.of (cc := cL_typeSymbol) (maxL := 5) (ret := (some .int)) (hh := [(0, 10, 13, 24)]) (own := RL) (by decide) rfl rfl (Nat.le_of_ble_eq_true rfl) ?_
  intro r u1 h p e s m args below meth c A C0 H locs ls hP hD hS hl
  obtain ⟨hx, hb, hml, hr, hown, hts, hlocks, hA, hK3, hN, hX, hT, hC⟩ := id C0
  have hK : va_K D vwCl (kT cI cZ) s := hK3.sub [0, 1] rfl
  have hl : lv_has ls 5 [(0, .ref (a4 0)), (1, .int x1), (2, .int x2), (3, .ref ao)] := hl
  unfold f_L_typeSymbol at h
  refine lv_aload_n hx hb dL_typeSymbol_0 rfl (lv_at hl 3 rfl) ?_
  refine lv_iconst (v := 0) hx hb dL_typeSymbol_1 rfl ?_
  refine lv_aload_n hx hb dL_typeSymbol_2 rfl (lv_at hl 0 rfl) ?_
  refine lv_iload_n hx hb dL_typeSymbol_3 rfl (lv_at hl 1 rfl) ?_
  refine lv_iload_n hx hb dL_typeSymbol_4 rfl (lv_at hl 2 rfl) ?_
  obtain ⟨q1, hq1, h⟩ := ob h
  refine ml_i (ws' := wL4 a4 a2 a1 a3 a0 ao cI cZ cJ (q1.2, o)) (wr := wO ao cJ o) [0, 1, 2, 3, 4, 5, 6, 7, 8, 9, 10, 11, 12, 13, 14, 15, 16, 17, 18, 19, 20, 21, 22, 23, 24, 25, 26, 27, 28] [29] [1, 2, 3, 4, 5, 6, 7, 8, 9, 10, 11, 12, 13, 14, 15, 16, 17, 18, 19, 20, 21, 22, 23, 24, 25, 26, 27, 28, 29, 0] (vx_runV (As := [.int x1, .int x2]) (rest := [.int 0, .ref ao]) ⟨hx, hb, hml, hown, hts⟩ (c_X4_typeSymbol l hlt D cI cZ sa a4 a2 a1 a3 a0 N x y t k b x1 x2 q1.1 q1.2 hq1 H.size) (cwV 2 hts gL_typeSymbol_X4_typeSymbol rfl rfl rfl (by decide +kernel) ⟨Nat.le_of_ble_eq_true rfl, Nat.le_of_ble_eq_true rfl⟩) (pXV [0, 1, 2, 3, 4, 5, 6, 7, 8, 9, 10, 11, 12, 13, 14, 15, 16, 17, 18, 19, 20, 21, 22, 23, 24, 25, 26, 27, 28] hP hD hS hA hK hN hX rfl rfl rfl rfl) rfl rfl hl.1 rfl (lv_room (Nat.le_of_ble_eq_true rfl)) dL_typeSymbol_5 ⟨Nat.le_of_ble_eq_true rfl, Nat.le_of_ble_eq_true rfl⟩) hP hD hS hA rfl rfl rfl (by decide) rfl rfl (fun k9 hk9 ce q9 H locs hP hD hS hce hcv hcl => ?_) (fun r1 hr9 H locs hP hD hS => ?_)
  · rw [hk9, exL_inr] at h
    by_cases hk2 : k9 = 2
    · rw [if_pos hk2] at h
      subst hk2
      obtain ⟨rfl, rfl⟩ := so h
      refine cx_catch (E := exN 2) (name := exN 2) hown [] ⟨0, 10, 13, 24⟩ [] hT (fun z hz => by cases hz) (by decide) (by decide) (hts (.classLink RL 24 "java/lang/IndexOutOfBoundsException") (by decide +kernel)) (hX.cast 2) hce hcv hcl ?_
      refine lv_astore (lv' := [(4, .ref q9), (0, .ref (a4 0)), (1, .int x1), (2, .int x2), (3, .ref ao)]) hx hb dL_typeSymbol_13 hl (by decide) rfl (fun ls hl => ?_)
      refine lv_iconst (v := 1) hx hb dL_typeSymbol_15 rfl ?_
      exact lret_i C0 hP hD hS dL_typeSymbol_16 (by decide) (by decide)
    rw [if_neg hk2] at h
    exact no h
  · rw [hr9, exL_inl] at h
    refine lv_i2l (v := Int32.toInt64 r1) hx hb dL_typeSymbol_8 rfl ?_
    refine va_last (f := o) hx hb hK3 hP hD hS 29 2 rfl rfl (i := 0) (x := (Int32.toInt64 r1)) (by unfold vp_in; decide) dL_typeSymbol_9 (fun H locs hP hD hS => ?_)
    obtain ⟨o1, eo1, h⟩ := bn h
    have hP : va_P D vwCl (wL4 a4 a2 a1 a3 a0 ao cI cZ cJ (q1.2, o1)) H := by rw [eo1]; exact hP
    have hD : va_D A (wL4 a4 a2 a1 a3 a0 ao cI cZ cJ (q1.2, o1)) := by rw [eo1]; exact hD
    refine lv_goto (tgt := 17) hx hb dL_typeSymbol_10 (by decide) ?_
    refine lv_iconst (v := 0) hx hb dL_typeSymbol_17 rfl ?_
    obtain ⟨rfl, rfl⟩ := so h
    exact lret_i C0 hP hD hS dL_typeSymbol_18 (by decide) (by decide)

def f_L_declare (N : Nat) (x y t k b : St) (o : Nat → Int64) (x1 : Int32) : Option (Int32 × SL) := (f_X4_declare N x y t k b x1).bind (fun q1 => exL q1.1 (fun r1 => bnd (vp_updL o (Int32.toNatClampNeg 0) (Int32.toInt64 r1)) (fun o1 => some (0, (q1.2, o1)))) (fun k => if k = 2 then some (1, (q1.2, o)) else if k = 1 then some (2, (q1.2, o)) else none))
set_option maxHeartbeats 4000000 in
set_option maxRecDepth 100000 in
theorem c_L_declare (l : Launch) (hlt : l.stackTraces = false) (D : va_G) (cI cZ cJ : ClassId) (sa : Nat → Nat) (a4 a2 a1 a3 a0 : Nat → Nat) (ao : Nat) (N : Nat) (x y t k b : St) (o : Nat → Int64) (x1 : Int32) : ML9 l yL_declare wsL_declare ({ frames := 8, cells := 2, slots := 12, locals := 126 } : Room) D cI cZ cJ sa (wL4 a4 a2 a1 a3 a0 ao cI cZ cJ) [.ref (a4 0), .int x1, .ref ao] ((x, y, t, k, b), o) 2 12 (f_L_declare N x y t k b o x1) := by
  refine ML9.of (cc := cL_declare) (maxL := 4) (ret := (some .int)) (hh := [(0, 9, 12, 24), (0, 9, 15, 15)]) (own := RL) (by decide) rfl rfl (Nat.le_of_ble_eq_true rfl) ?_
  intro r u1 h p e s m args below meth c A C0 H locs ls hP hD hS hl
  obtain ⟨hx, hb, hml, hr, hown, hts, hlocks, hA, hK3, hN, hX, hT, hC⟩ := id C0
  have hK : va_K D vwCl (kT cI cZ) s := hK3.sub [0, 1] rfl
  have hl : lv_has ls 4 [(0, .ref (a4 0)), (1, .int x1), (2, .ref ao)] := hl
  unfold f_L_declare at h
  refine lv_aload_n hx hb dL_declare_0 rfl (lv_at hl 2 rfl) ?_
  refine lv_iconst (v := 0) hx hb dL_declare_1 rfl ?_
  refine lv_aload_n hx hb dL_declare_2 rfl (lv_at hl 0 rfl) ?_
  refine lv_iload_n hx hb dL_declare_3 rfl (lv_at hl 1 rfl) ?_
  obtain ⟨q1, hq1, h⟩ := ob h
  refine ml_i (ws' := wL4 a4 a2 a1 a3 a0 ao cI cZ cJ (q1.2, o)) (wr := wO ao cJ o) [0, 1, 2, 3, 4, 5, 6, 7, 8, 9, 10, 11, 12, 13, 14, 15, 16, 17, 18, 19, 20, 21, 22, 23, 24, 25, 26, 27, 28] [29] [1, 2, 3, 4, 5, 6, 7, 8, 9, 10, 11, 12, 13, 14, 15, 16, 17, 18, 19, 20, 21, 22, 23, 24, 25, 26, 27, 28, 29, 0] (vx_runV (As := [.int x1]) (rest := [.int 0, .ref ao]) ⟨hx, hb, hml, hown, hts⟩ (c_X4_declare l hlt D cI cZ sa a4 a2 a1 a3 a0 N x y t k b x1 q1.1 q1.2 hq1 H.size) (cwV 1 hts gL_declare_X4_declare rfl rfl rfl (by decide +kernel) ⟨Nat.le_of_ble_eq_true rfl, Nat.le_of_ble_eq_true rfl⟩) (pXV [0, 1, 2, 3, 4, 5, 6, 7, 8, 9, 10, 11, 12, 13, 14, 15, 16, 17, 18, 19, 20, 21, 22, 23, 24, 25, 26, 27, 28] hP hD hS hA hK hN hX rfl rfl rfl rfl) rfl rfl hl.1 rfl (lv_room (Nat.le_of_ble_eq_true rfl)) dL_declare_4 ⟨Nat.le_of_ble_eq_true rfl, Nat.le_of_ble_eq_true rfl⟩) hP hD hS hA rfl rfl rfl (by decide) rfl rfl (fun k9 hk9 ce q9 H locs hP hD hS hce hcv hcl => ?_) (fun r1 hr9 H locs hP hD hS => ?_)
  · rw [hk9, exL_inr] at h
    by_cases hk2 : k9 = 2
    · rw [if_pos hk2] at h
      subst hk2
      obtain ⟨rfl, rfl⟩ := so h
      refine cx_catch (E := exN 2) (name := exN 2) hown [] ⟨0, 9, 12, 24⟩ [⟨0, 9, 15, 15⟩] hT (fun z hz => by cases hz) (by decide) (by decide) (hts (.classLink RL 24 "java/lang/IndexOutOfBoundsException") (by decide +kernel)) (hX.cast 2) hce hcv hcl ?_
      refine lv_astore_n (lv' := [(3, .ref q9), (0, .ref (a4 0)), (1, .int x1), (2, .ref ao)]) hx hb dL_declare_12 rfl hl (by decide) rfl (fun ls hl => ?_)
      refine lv_iconst (v := 1) hx hb dL_declare_13 rfl ?_
      exact lret_i C0 hP hD hS dL_declare_14 (by decide) (by decide)
    rw [if_neg hk2] at h
    by_cases hk1 : k9 = 1
    · rw [if_pos hk1] at h
      subst hk1
      obtain ⟨rfl, rfl⟩ := so h
      refine cx_catch (E := exN 1) (name := exN 1) hown [⟨0, 9, 12, 24⟩] ⟨0, 9, 15, 15⟩ [] hT (fun z hz => ?_) (by decide) (by decide) (hts (.classLink RL 15 "java/lang/IllegalStateException") (by decide +kernel)) (hX.cast 1) hce hcv hcl ?_
      · simp only [List.mem_cons, List.not_mem_nil, or_false] at hz
        rcases hz with rfl
        · exact Or.inr ⟨by decide, "java/lang/IndexOutOfBoundsException", hts (.classLink RL 24 "java/lang/IndexOutOfBoundsException") (by decide +kernel), hC ("java/lang/IllegalStateException", "java/lang/IndexOutOfBoundsException") (by decide)⟩
      refine lv_astore_n (lv' := [(3, .ref q9), (0, .ref (a4 0)), (1, .int x1), (2, .ref ao)]) hx hb dL_declare_15 rfl hl (by decide) rfl (fun ls hl => ?_)
      refine lv_iconst (v := 2) hx hb dL_declare_16 rfl ?_
      exact lret_i C0 hP hD hS dL_declare_17 (by decide) (by decide)
    rw [if_neg hk1] at h
    exact no h
  · rw [hr9, exL_inl] at h
    refine lv_i2l (v := Int32.toInt64 r1) hx hb dL_declare_7 rfl ?_
    refine va_last (f := o) hx hb hK3 hP hD hS 29 2 rfl rfl (i := 0) (x := (Int32.toInt64 r1)) (by unfold vp_in; decide) dL_declare_8 (fun H locs hP hD hS => ?_)
    obtain ⟨o1, eo1, h⟩ := bn h
    have hP : va_P D vwCl (wL4 a4 a2 a1 a3 a0 ao cI cZ cJ (q1.2, o1)) H := by rw [eo1]; exact hP
    have hD : va_D A (wL4 a4 a2 a1 a3 a0 ao cI cZ cJ (q1.2, o1)) := by rw [eo1]; exact hD
    refine lv_goto (tgt := 18) hx hb dL_declare_9 (by decide) ?_
    refine lv_iconst (v := 0) hx hb dL_declare_18 rfl ?_
    obtain ⟨rfl, rfl⟩ := so h
    exact lret_i C0 hP hD hS dL_declare_19 (by decide) (by decide)

def f_L_free (N : Nat) (x y t k b : St) (o : Nat → Int64) (x1 x2 : Int32) : Option (Int32 × SL) := (f_X4_free N x y t k b x1 x2).bind (fun q1 => exL q1.1 (fun r1 => bnd (vp_updL o (Int32.toNatClampNeg 0) (Int32.toInt64 r1)) (fun o1 => some (0, (q1.2, o1)))) (fun k => if k = 2 then some (1, (q1.2, o)) else if k = 0 then some (2, (q1.2, o)) else if k = 1 then some (3, (q1.2, o)) else none))
set_option maxHeartbeats 4000000 in
set_option maxRecDepth 100000 in
theorem c_L_free (l : Launch) (hlt : l.stackTraces = false) (D : va_G) (cI cZ cJ : ClassId) (sa : Nat → Nat) (a4 a2 a1 a3 a0 : Nat → Nat) (ao : Nat) (N : Nat) (x y t k b : St) (o : Nat → Int64) (x1 x2 : Int32) : ML9 l yL_free wsL_free ({ frames := 9, cells := 3, slots := 18, locals := 152 } : Room) D cI cZ cJ sa (wL4 a4 a2 a1 a3 a0 ao cI cZ cJ) [.ref (a4 0), .int x1, .int x2, .ref ao] ((x, y, t, k, b), o) 3 18 (f_L_free N x y t k b o x1 x2) := by
  refine ML9.of (cc := cL_free) (maxL := 5) (ret := (some .int)) (hh := [(0, 10, 13, 24), (0, 10, 17, 13), (0, 10, 21, 15)]) (own := RL) (by decide) rfl rfl (Nat.le_of_ble_eq_true rfl) ?_
  intro r u1 h p e s m args below meth c A C0 H locs ls hP hD hS hl
  obtain ⟨hx, hb, hml, hr, hown, hts, hlocks, hA, hK3, hN, hX, hT, hC⟩ := id C0
  have hK : va_K D vwCl (kT cI cZ) s := hK3.sub [0, 1] rfl
  have hl : lv_has ls 5 [(0, .ref (a4 0)), (1, .int x1), (2, .int x2), (3, .ref ao)] := hl
  unfold f_L_free at h
  refine lv_aload_n hx hb dL_free_0 rfl (lv_at hl 3 rfl) ?_
  refine lv_iconst (v := 0) hx hb dL_free_1 rfl ?_
  refine lv_aload_n hx hb dL_free_2 rfl (lv_at hl 0 rfl) ?_
  refine lv_iload_n hx hb dL_free_3 rfl (lv_at hl 1 rfl) ?_
  refine lv_iload_n hx hb dL_free_4 rfl (lv_at hl 2 rfl) ?_
  obtain ⟨q1, hq1, h⟩ := ob h
  refine ml_i (ws' := wL4 a4 a2 a1 a3 a0 ao cI cZ cJ (q1.2, o)) (wr := wO ao cJ o) [0, 1, 2, 3, 4, 5, 6, 7, 8, 9, 10, 11, 12, 13, 14, 15, 16, 17, 18, 19, 20, 21, 22, 23, 24, 25, 26, 27, 28] [29] [1, 2, 3, 4, 5, 6, 7, 8, 9, 10, 11, 12, 13, 14, 15, 16, 17, 18, 19, 20, 21, 22, 23, 24, 25, 26, 27, 28, 29, 0] (vx_runV (As := [.int x1, .int x2]) (rest := [.int 0, .ref ao]) ⟨hx, hb, hml, hown, hts⟩ (c_X4_free l hlt D cI cZ sa a4 a2 a1 a3 a0 N x y t k b x1 x2 q1.1 q1.2 hq1 H.size) (cwV 2 hts gL_free_X4_free rfl rfl rfl (by decide +kernel) ⟨Nat.le_of_ble_eq_true rfl, Nat.le_of_ble_eq_true rfl⟩) (pXV [0, 1, 2, 3, 4, 5, 6, 7, 8, 9, 10, 11, 12, 13, 14, 15, 16, 17, 18, 19, 20, 21, 22, 23, 24, 25, 26, 27, 28] hP hD hS hA hK hN hX rfl rfl rfl rfl) rfl rfl hl.1 rfl (lv_room (Nat.le_of_ble_eq_true rfl)) dL_free_5 ⟨Nat.le_of_ble_eq_true rfl, Nat.le_of_ble_eq_true rfl⟩) hP hD hS hA rfl rfl rfl (by decide) rfl rfl (fun k9 hk9 ce q9 H locs hP hD hS hce hcv hcl => ?_) (fun r1 hr9 H locs hP hD hS => ?_)
  · rw [hk9, exL_inr] at h
    by_cases hk2 : k9 = 2
    · rw [if_pos hk2] at h
      subst hk2
      obtain ⟨rfl, rfl⟩ := so h
      refine cx_catch (E := exN 2) (name := exN 2) hown [] ⟨0, 10, 13, 24⟩ [⟨0, 10, 17, 13⟩, ⟨0, 10, 21, 15⟩] hT (fun z hz => by cases hz) (by decide) (by decide) (hts (.classLink RL 24 "java/lang/IndexOutOfBoundsException") (by decide +kernel)) (hX.cast 2) hce hcv hcl ?_
      refine lv_astore (lv' := [(4, .ref q9), (0, .ref (a4 0)), (1, .int x1), (2, .int x2), (3, .ref ao)]) hx hb dL_free_13 hl (by decide) rfl (fun ls hl => ?_)
      refine lv_iconst (v := 1) hx hb dL_free_15 rfl ?_
      exact lret_i C0 hP hD hS dL_free_16 (by decide) (by decide)
    rw [if_neg hk2] at h
    by_cases hk0 : k9 = 0
    · rw [if_pos hk0] at h
      subst hk0
      obtain ⟨rfl, rfl⟩ := so h
      refine cx_catch (E := exN 0) (name := exN 0) hown [⟨0, 10, 13, 24⟩] ⟨0, 10, 17, 13⟩ [⟨0, 10, 21, 15⟩] hT (fun z hz => ?_) (by decide) (by decide) (hts (.classLink RL 13 "java/lang/IllegalArgumentException") (by decide +kernel)) (hX.cast 0) hce hcv hcl ?_
      · simp only [List.mem_cons, List.not_mem_nil, or_false] at hz
        rcases hz with rfl
        · exact Or.inr ⟨by decide, "java/lang/IndexOutOfBoundsException", hts (.classLink RL 24 "java/lang/IndexOutOfBoundsException") (by decide +kernel), hC ("java/lang/IllegalArgumentException", "java/lang/IndexOutOfBoundsException") (by decide)⟩
      refine lv_astore (lv' := [(4, .ref q9), (0, .ref (a4 0)), (1, .int x1), (2, .int x2), (3, .ref ao)]) hx hb dL_free_17 hl (by decide) rfl (fun ls hl => ?_)
      refine lv_iconst (v := 2) hx hb dL_free_19 rfl ?_
      exact lret_i C0 hP hD hS dL_free_20 (by decide) (by decide)
    rw [if_neg hk0] at h
    by_cases hk1 : k9 = 1
    · rw [if_pos hk1] at h
      subst hk1
      obtain ⟨rfl, rfl⟩ := so h
      refine cx_catch (E := exN 1) (name := exN 1) hown [⟨0, 10, 13, 24⟩, ⟨0, 10, 17, 13⟩] ⟨0, 10, 21, 15⟩ [] hT (fun z hz => ?_) (by decide) (by decide) (hts (.classLink RL 15 "java/lang/IllegalStateException") (by decide +kernel)) (hX.cast 1) hce hcv hcl ?_
      · simp only [List.mem_cons, List.not_mem_nil, or_false] at hz
        rcases hz with rfl | rfl
        · exact Or.inr ⟨by decide, "java/lang/IndexOutOfBoundsException", hts (.classLink RL 24 "java/lang/IndexOutOfBoundsException") (by decide +kernel), hC ("java/lang/IllegalStateException", "java/lang/IndexOutOfBoundsException") (by decide)⟩
        · exact Or.inr ⟨by decide, "java/lang/IllegalArgumentException", hts (.classLink RL 13 "java/lang/IllegalArgumentException") (by decide +kernel), hC ("java/lang/IllegalStateException", "java/lang/IllegalArgumentException") (by decide)⟩
      refine lv_astore (lv' := [(4, .ref q9), (0, .ref (a4 0)), (1, .int x1), (2, .int x2), (3, .ref ao)]) hx hb dL_free_21 hl (by decide) rfl (fun ls hl => ?_)
      refine lv_iconst (v := 3) hx hb dL_free_23 rfl ?_
      exact lret_i C0 hP hD hS dL_free_24 (by decide) (by decide)
    rw [if_neg hk1] at h
    exact no h
  · rw [hr9, exL_inl] at h
    refine lv_i2l (v := Int32.toInt64 r1) hx hb dL_free_8 rfl ?_
    refine va_last (f := o) hx hb hK3 hP hD hS 29 2 rfl rfl (i := 0) (x := (Int32.toInt64 r1)) (by unfold vp_in; decide) dL_free_9 (fun H locs hP hD hS => ?_)
    obtain ⟨o1, eo1, h⟩ := bn h
    have hP : va_P D vwCl (wL4 a4 a2 a1 a3 a0 ao cI cZ cJ (q1.2, o1)) H := by rw [eo1]; exact hP
    have hD : va_D A (wL4 a4 a2 a1 a3 a0 ao cI cZ cJ (q1.2, o1)) := by rw [eo1]; exact hD
    refine lv_goto (tgt := 25) hx hb dL_free_10 (by decide) ?_
    refine lv_iconst (v := 0) hx hb dL_free_25 rfl ?_
    obtain ⟨rfl, rfl⟩ := so h
    exact lret_i C0 hP hD hS dL_free_26 (by decide) (by decide)

def f_L_constant (N : Nat) (x y t k b : St) (o : Nat → Int64) (x1 x2 : Int32) : Option (Int32 × SL) := (f_X4_constant N x y t k b x1 x2).bind (fun q1 => exL q1.1 (fun r1 => bnd (vp_updL o (Int32.toNatClampNeg 0) (Int32.toInt64 r1)) (fun o1 => some (0, (q1.2, o1)))) (fun k => if k = 2 then some (1, (q1.2, o)) else if k = 0 then some (2, (q1.2, o)) else if k = 1 then some (3, (q1.2, o)) else none))
set_option maxHeartbeats 4000000 in
set_option maxRecDepth 100000 in
theorem c_L_constant (l : Launch) (hlt : l.stackTraces = false) (D : va_G) (cI cZ cJ : ClassId) (sa : Nat → Nat) (a4 a2 a1 a3 a0 : Nat → Nat) (ao : Nat) (N : Nat) (x y t k b : St) (o : Nat → Int64) (x1 x2 : Int32) : ML9 l yL_constant wsL_constant ({ frames := 129, cells := 2, slots := 12, locals := 5069 } : Room) D cI cZ cJ sa (wL4 a4 a2 a1 a3 a0 ao cI cZ cJ) [.ref (a4 0), .int x1, .int x2, .ref ao] ((x, y, t, k, b), o) 2 12 (f_L_constant N x y t k b o x1 x2) := by
  refine ML9.of (cc := cL_constant) (maxL := 5) (ret := (some .int)) (hh := [(0, 10, 13, 24), (0, 10, 17, 13), (0, 10, 21, 15)]) (own := RL) (by decide) rfl rfl (Nat.le_of_ble_eq_true rfl) ?_
  intro r u1 h p e s m args below meth c A C0 H locs ls hP hD hS hl
  obtain ⟨hx, hb, hml, hr, hown, hts, hlocks, hA, hK3, hN, hX, hT, hC⟩ := id C0
  have hK : va_K D vwCl (kT cI cZ) s := hK3.sub [0, 1] rfl
  have hl : lv_has ls 5 [(0, .ref (a4 0)), (1, .int x1), (2, .int x2), (3, .ref ao)] := hl
  unfold f_L_constant at h
  refine lv_aload_n hx hb dL_constant_0 rfl (lv_at hl 3 rfl) ?_
  refine lv_iconst (v := 0) hx hb dL_constant_1 rfl ?_
  refine lv_aload_n hx hb dL_constant_2 rfl (lv_at hl 0 rfl) ?_
  refine lv_iload_n hx hb dL_constant_3 rfl (lv_at hl 1 rfl) ?_
  refine lv_iload_n hx hb dL_constant_4 rfl (lv_at hl 2 rfl) ?_
  obtain ⟨q1, hq1, h⟩ := ob h
  refine ml_i (ws' := wL4 a4 a2 a1 a3 a0 ao cI cZ cJ (q1.2, o)) (wr := wO ao cJ o) [0, 1, 2, 3, 4, 5, 6, 7, 8, 9, 10, 11, 12, 13, 14, 15, 16, 17, 18, 19, 20, 21, 22, 23, 24, 25, 26, 27, 28] [29] [1, 2, 3, 4, 5, 6, 7, 8, 9, 10, 11, 12, 13, 14, 15, 16, 17, 18, 19, 20, 21, 22, 23, 24, 25, 26, 27, 28, 29, 0] (vx_runV (As := [.int x1, .int x2]) (rest := [.int 0, .ref ao]) ⟨hx, hb, hml, hown, hts⟩ (c_X4_constant l hlt D cI cZ sa a4 a2 a1 a3 a0 N x y t k b x1 x2 q1.1 q1.2 hq1 H.size) (cwV 2 hts gL_constant_X4_constant rfl rfl rfl (by decide +kernel) ⟨Nat.le_of_ble_eq_true rfl, Nat.le_of_ble_eq_true rfl⟩) (pXV [0, 1, 2, 3, 4, 5, 6, 7, 8, 9, 10, 11, 12, 13, 14, 15, 16, 17, 18, 19, 20, 21, 22, 23, 24, 25, 26, 27, 28] hP hD hS hA hK hN hX rfl rfl rfl rfl) rfl rfl hl.1 rfl (lv_room (Nat.le_of_ble_eq_true rfl)) dL_constant_5 ⟨Nat.le_of_ble_eq_true rfl, Nat.le_of_ble_eq_true rfl⟩) hP hD hS hA rfl rfl rfl (by decide) rfl rfl (fun k9 hk9 ce q9 H locs hP hD hS hce hcv hcl => ?_) (fun r1 hr9 H locs hP hD hS => ?_)
  · rw [hk9, exL_inr] at h
    by_cases hk2 : k9 = 2
    · rw [if_pos hk2] at h
      subst hk2
      obtain ⟨rfl, rfl⟩ := so h
      refine cx_catch (E := exN 2) (name := exN 2) hown [] ⟨0, 10, 13, 24⟩ [⟨0, 10, 17, 13⟩, ⟨0, 10, 21, 15⟩] hT (fun z hz => by cases hz) (by decide) (by decide) (hts (.classLink RL 24 "java/lang/IndexOutOfBoundsException") (by decide +kernel)) (hX.cast 2) hce hcv hcl ?_
      refine lv_astore (lv' := [(4, .ref q9), (0, .ref (a4 0)), (1, .int x1), (2, .int x2), (3, .ref ao)]) hx hb dL_constant_13 hl (by decide) rfl (fun ls hl => ?_)
      refine lv_iconst (v := 1) hx hb dL_constant_15 rfl ?_
      exact lret_i C0 hP hD hS dL_constant_16 (by decide) (by decide)
    rw [if_neg hk2] at h
    by_cases hk0 : k9 = 0
    · rw [if_pos hk0] at h
      subst hk0
      obtain ⟨rfl, rfl⟩ := so h
      refine cx_catch (E := exN 0) (name := exN 0) hown [⟨0, 10, 13, 24⟩] ⟨0, 10, 17, 13⟩ [⟨0, 10, 21, 15⟩] hT (fun z hz => ?_) (by decide) (by decide) (hts (.classLink RL 13 "java/lang/IllegalArgumentException") (by decide +kernel)) (hX.cast 0) hce hcv hcl ?_
      · simp only [List.mem_cons, List.not_mem_nil, or_false] at hz
        rcases hz with rfl
        · exact Or.inr ⟨by decide, "java/lang/IndexOutOfBoundsException", hts (.classLink RL 24 "java/lang/IndexOutOfBoundsException") (by decide +kernel), hC ("java/lang/IllegalArgumentException", "java/lang/IndexOutOfBoundsException") (by decide)⟩
      refine lv_astore (lv' := [(4, .ref q9), (0, .ref (a4 0)), (1, .int x1), (2, .int x2), (3, .ref ao)]) hx hb dL_constant_17 hl (by decide) rfl (fun ls hl => ?_)
      refine lv_iconst (v := 2) hx hb dL_constant_19 rfl ?_
      exact lret_i C0 hP hD hS dL_constant_20 (by decide) (by decide)
    rw [if_neg hk0] at h
    by_cases hk1 : k9 = 1
    · rw [if_pos hk1] at h
      subst hk1
      obtain ⟨rfl, rfl⟩ := so h
      refine cx_catch (E := exN 1) (name := exN 1) hown [⟨0, 10, 13, 24⟩, ⟨0, 10, 17, 13⟩] ⟨0, 10, 21, 15⟩ [] hT (fun z hz => ?_) (by decide) (by decide) (hts (.classLink RL 15 "java/lang/IllegalStateException") (by decide +kernel)) (hX.cast 1) hce hcv hcl ?_
      · simp only [List.mem_cons, List.not_mem_nil, or_false] at hz
        rcases hz with rfl | rfl
        · exact Or.inr ⟨by decide, "java/lang/IndexOutOfBoundsException", hts (.classLink RL 24 "java/lang/IndexOutOfBoundsException") (by decide +kernel), hC ("java/lang/IllegalStateException", "java/lang/IndexOutOfBoundsException") (by decide)⟩
        · exact Or.inr ⟨by decide, "java/lang/IllegalArgumentException", hts (.classLink RL 13 "java/lang/IllegalArgumentException") (by decide +kernel), hC ("java/lang/IllegalStateException", "java/lang/IllegalArgumentException") (by decide)⟩
      refine lv_astore (lv' := [(4, .ref q9), (0, .ref (a4 0)), (1, .int x1), (2, .int x2), (3, .ref ao)]) hx hb dL_constant_21 hl (by decide) rfl (fun ls hl => ?_)
      refine lv_iconst (v := 3) hx hb dL_constant_23 rfl ?_
      exact lret_i C0 hP hD hS dL_constant_24 (by decide) (by decide)
    rw [if_neg hk1] at h
    exact no h
  · rw [hr9, exL_inl] at h
    refine lv_i2l (v := Int32.toInt64 r1) hx hb dL_constant_8 rfl ?_
    refine va_last (f := o) hx hb hK3 hP hD hS 29 2 rfl rfl (i := 0) (x := (Int32.toInt64 r1)) (by unfold vp_in; decide) dL_constant_9 (fun H locs hP hD hS => ?_)
    obtain ⟨o1, eo1, h⟩ := bn h
    have hP : va_P D vwCl (wL4 a4 a2 a1 a3 a0 ao cI cZ cJ (q1.2, o1)) H := by rw [eo1]; exact hP
    have hD : va_D A (wL4 a4 a2 a1 a3 a0 ao cI cZ cJ (q1.2, o1)) := by rw [eo1]; exact hD
    refine lv_goto (tgt := 25) hx hb dL_constant_10 (by decide) ?_
    refine lv_iconst (v := 0) hx hb dL_constant_25 rfl ?_
    obtain ⟨rfl, rfl⟩ := so h
    exact lret_i C0 hP hD hS dL_constant_26 (by decide) (by decide)

def f_L_apply (N : Nat) (x y t k b : St) (o : Nat → Int64) (x1 x2 : Int32) : Option (Int32 × SL) := (f_X4_apply N x y t k b x1 x2).bind (fun q1 => exL q1.1 (fun r1 => bnd (vp_updL o (Int32.toNatClampNeg 0) (Int32.toInt64 r1)) (fun o1 => some (0, (q1.2, o1)))) (fun k => if k = 2 then some (1, (q1.2, o)) else if k = 0 then some (2, (q1.2, o)) else if k = 1 then some (3, (q1.2, o)) else none))
set_option maxHeartbeats 4000000 in
set_option maxRecDepth 100000 in
theorem c_L_apply (l : Launch) (hlt : l.stackTraces = false) (D : va_G) (cI cZ cJ : ClassId) (sa : Nat → Nat) (a4 a2 a1 a3 a0 : Nat → Nat) (ao : Nat) (N : Nat) (x y t k b : St) (o : Nat → Int64) (x1 x2 : Int32) : ML9 l yL_apply wsL_apply ({ frames := 8, cells := 3, slots := 18, locals := 130 } : Room) D cI cZ cJ sa (wL4 a4 a2 a1 a3 a0 ao cI cZ cJ) [.ref (a4 0), .int x1, .int x2, .ref ao] ((x, y, t, k, b), o) 3 18 (f_L_apply N x y t k b o x1 x2) := by
  refine ML9.of (cc := cL_apply) (maxL := 5) (ret := (some .int)) (hh := [(0, 10, 13, 24), (0, 10, 17, 13), (0, 10, 21, 15)]) (own := RL) (by decide) rfl rfl (Nat.le_of_ble_eq_true rfl) ?_
  intro r u1 h p e s m args below meth c A C0 H locs ls hP hD hS hl
  obtain ⟨hx, hb, hml, hr, hown, hts, hlocks, hA, hK3, hN, hX, hT, hC⟩ := id C0
  have hK : va_K D vwCl (kT cI cZ) s := hK3.sub [0, 1] rfl
  have hl : lv_has ls 5 [(0, .ref (a4 0)), (1, .int x1), (2, .int x2), (3, .ref ao)] := hl
  unfold f_L_apply at h
  refine lv_aload_n hx hb dL_apply_0 rfl (lv_at hl 3 rfl) ?_
  refine lv_iconst (v := 0) hx hb dL_apply_1 rfl ?_
  refine lv_aload_n hx hb dL_apply_2 rfl (lv_at hl 0 rfl) ?_
  refine lv_iload_n hx hb dL_apply_3 rfl (lv_at hl 1 rfl) ?_
  refine lv_iload_n hx hb dL_apply_4 rfl (lv_at hl 2 rfl) ?_
  obtain ⟨q1, hq1, h⟩ := ob h
  refine ml_i (ws' := wL4 a4 a2 a1 a3 a0 ao cI cZ cJ (q1.2, o)) (wr := wO ao cJ o) [0, 1, 2, 3, 4, 5, 6, 7, 8, 9, 10, 11, 12, 13, 14, 15, 16, 17, 18, 19, 20, 21, 22, 23, 24, 25, 26, 27, 28] [29] [1, 2, 3, 4, 5, 6, 7, 8, 9, 10, 11, 12, 13, 14, 15, 16, 17, 18, 19, 20, 21, 22, 23, 24, 25, 26, 27, 28, 29, 0] (vx_runV (As := [.int x1, .int x2]) (rest := [.int 0, .ref ao]) ⟨hx, hb, hml, hown, hts⟩ (c_X4_apply l hlt D cI cZ sa a4 a2 a1 a3 a0 N x y t k b x1 x2 q1.1 q1.2 hq1 H.size) (cwV 2 hts gL_apply_X4_apply rfl rfl rfl (by decide +kernel) ⟨Nat.le_of_ble_eq_true rfl, Nat.le_of_ble_eq_true rfl⟩) (pXV [0, 1, 2, 3, 4, 5, 6, 7, 8, 9, 10, 11, 12, 13, 14, 15, 16, 17, 18, 19, 20, 21, 22, 23, 24, 25, 26, 27, 28] hP hD hS hA hK hN hX rfl rfl rfl rfl) rfl rfl hl.1 rfl (lv_room (Nat.le_of_ble_eq_true rfl)) dL_apply_5 ⟨Nat.le_of_ble_eq_true rfl, Nat.le_of_ble_eq_true rfl⟩) hP hD hS hA rfl rfl rfl (by decide) rfl rfl (fun k9 hk9 ce q9 H locs hP hD hS hce hcv hcl => ?_) (fun r1 hr9 H locs hP hD hS => ?_)
  · rw [hk9, exL_inr] at h
    by_cases hk2 : k9 = 2
    · rw [if_pos hk2] at h
      subst hk2
      obtain ⟨rfl, rfl⟩ := so h
      refine cx_catch (E := exN 2) (name := exN 2) hown [] ⟨0, 10, 13, 24⟩ [⟨0, 10, 17, 13⟩, ⟨0, 10, 21, 15⟩] hT (fun z hz => by cases hz) (by decide) (by decide) (hts (.classLink RL 24 "java/lang/IndexOutOfBoundsException") (by decide +kernel)) (hX.cast 2) hce hcv hcl ?_
      refine lv_astore (lv' := [(4, .ref q9), (0, .ref (a4 0)), (1, .int x1), (2, .int x2), (3, .ref ao)]) hx hb dL_apply_13 hl (by decide) rfl (fun ls hl => ?_)
      refine lv_iconst (v := 1) hx hb dL_apply_15 rfl ?_
      exact lret_i C0 hP hD hS dL_apply_16 (by decide) (by decide)
    rw [if_neg hk2] at h
    by_cases hk0 : k9 = 0
    · rw [if_pos hk0] at h
      subst hk0
      obtain ⟨rfl, rfl⟩ := so h
      refine cx_catch (E := exN 0) (name := exN 0) hown [⟨0, 10, 13, 24⟩] ⟨0, 10, 17, 13⟩ [⟨0, 10, 21, 15⟩] hT (fun z hz => ?_) (by decide) (by decide) (hts (.classLink RL 13 "java/lang/IllegalArgumentException") (by decide +kernel)) (hX.cast 0) hce hcv hcl ?_
      · simp only [List.mem_cons, List.not_mem_nil, or_false] at hz
        rcases hz with rfl
        · exact Or.inr ⟨by decide, "java/lang/IndexOutOfBoundsException", hts (.classLink RL 24 "java/lang/IndexOutOfBoundsException") (by decide +kernel), hC ("java/lang/IllegalArgumentException", "java/lang/IndexOutOfBoundsException") (by decide)⟩
      refine lv_astore (lv' := [(4, .ref q9), (0, .ref (a4 0)), (1, .int x1), (2, .int x2), (3, .ref ao)]) hx hb dL_apply_17 hl (by decide) rfl (fun ls hl => ?_)
      refine lv_iconst (v := 2) hx hb dL_apply_19 rfl ?_
      exact lret_i C0 hP hD hS dL_apply_20 (by decide) (by decide)
    rw [if_neg hk0] at h
    by_cases hk1 : k9 = 1
    · rw [if_pos hk1] at h
      subst hk1
      obtain ⟨rfl, rfl⟩ := so h
      refine cx_catch (E := exN 1) (name := exN 1) hown [⟨0, 10, 13, 24⟩, ⟨0, 10, 17, 13⟩] ⟨0, 10, 21, 15⟩ [] hT (fun z hz => ?_) (by decide) (by decide) (hts (.classLink RL 15 "java/lang/IllegalStateException") (by decide +kernel)) (hX.cast 1) hce hcv hcl ?_
      · simp only [List.mem_cons, List.not_mem_nil, or_false] at hz
        rcases hz with rfl | rfl
        · exact Or.inr ⟨by decide, "java/lang/IndexOutOfBoundsException", hts (.classLink RL 24 "java/lang/IndexOutOfBoundsException") (by decide +kernel), hC ("java/lang/IllegalStateException", "java/lang/IndexOutOfBoundsException") (by decide)⟩
        · exact Or.inr ⟨by decide, "java/lang/IllegalArgumentException", hts (.classLink RL 13 "java/lang/IllegalArgumentException") (by decide +kernel), hC ("java/lang/IllegalStateException", "java/lang/IllegalArgumentException") (by decide)⟩
      refine lv_astore (lv' := [(4, .ref q9), (0, .ref (a4 0)), (1, .int x1), (2, .int x2), (3, .ref ao)]) hx hb dL_apply_21 hl (by decide) rfl (fun ls hl => ?_)
      refine lv_iconst (v := 3) hx hb dL_apply_23 rfl ?_
      exact lret_i C0 hP hD hS dL_apply_24 (by decide) (by decide)
    rw [if_neg hk1] at h
    exact no h
  · rw [hr9, exL_inl] at h
    refine lv_i2l (v := Int32.toInt64 r1) hx hb dL_apply_8 rfl ?_
    refine va_last (f := o) hx hb hK3 hP hD hS 29 2 rfl rfl (i := 0) (x := (Int32.toInt64 r1)) (by unfold vp_in; decide) dL_apply_9 (fun H locs hP hD hS => ?_)
    obtain ⟨o1, eo1, h⟩ := bn h
    have hP : va_P D vwCl (wL4 a4 a2 a1 a3 a0 ao cI cZ cJ (q1.2, o1)) H := by rw [eo1]; exact hP
    have hD : va_D A (wL4 a4 a2 a1 a3 a0 ao cI cZ cJ (q1.2, o1)) := by rw [eo1]; exact hD
    refine lv_goto (tgt := 25) hx hb dL_apply_10 (by decide) ?_
    refine lv_iconst (v := 0) hx hb dL_apply_25 rfl ?_
    obtain ⟨rfl, rfl⟩ := so h
    exact lret_i C0 hP hD hS dL_apply_26 (by decide) (by decide)

def f_L_abstraction (N : Nat) (x y t k b : St) (o : Nat → Int64) (x1 x2 : Int32) : Option (Int32 × SL) := (f_X4_abstraction N x y t k b x1 x2).bind (fun q1 => exL q1.1 (fun r1 => bnd (vp_updL o (Int32.toNatClampNeg 0) (Int32.toInt64 r1)) (fun o1 => some (0, (q1.2, o1)))) (fun k => if k = 2 then some (1, (q1.2, o)) else if k = 0 then some (2, (q1.2, o)) else if k = 1 then some (3, (q1.2, o)) else none))
set_option maxHeartbeats 4000000 in
set_option maxRecDepth 100000 in
theorem c_L_abstraction (l : Launch) (hlt : l.stackTraces = false) (D : va_G) (cI cZ cJ : ClassId) (sa : Nat → Nat) (a4 a2 a1 a3 a0 : Nat → Nat) (ao : Nat) (N : Nat) (x y t k b : St) (o : Nat → Int64) (x1 x2 : Int32) : ML9 l yL_abstraction wsL_abstraction ({ frames := 8, cells := 4, slots := 24, locals := 133 } : Room) D cI cZ cJ sa (wL4 a4 a2 a1 a3 a0 ao cI cZ cJ) [.ref (a4 0), .int x1, .int x2, .ref ao] ((x, y, t, k, b), o) 4 24 (f_L_abstraction N x y t k b o x1 x2) := by
  refine ML9.of (cc := cL_abstraction) (maxL := 5) (ret := (some .int)) (hh := [(0, 10, 13, 24), (0, 10, 17, 13), (0, 10, 21, 15)]) (own := RL) (by decide) rfl rfl (Nat.le_of_ble_eq_true rfl) ?_
  intro r u1 h p e s m args below meth c A C0 H locs ls hP hD hS hl
  obtain ⟨hx, hb, hml, hr, hown, hts, hlocks, hA, hK3, hN, hX, hT, hC⟩ := id C0
  have hK : va_K D vwCl (kT cI cZ) s := hK3.sub [0, 1] rfl
  have hl : lv_has ls 5 [(0, .ref (a4 0)), (1, .int x1), (2, .int x2), (3, .ref ao)] := hl
  unfold f_L_abstraction at h
  refine lv_aload_n hx hb dL_abstraction_0 rfl (lv_at hl 3 rfl) ?_
  refine lv_iconst (v := 0) hx hb dL_abstraction_1 rfl ?_
  refine lv_aload_n hx hb dL_abstraction_2 rfl (lv_at hl 0 rfl) ?_
  refine lv_iload_n hx hb dL_abstraction_3 rfl (lv_at hl 1 rfl) ?_
  refine lv_iload_n hx hb dL_abstraction_4 rfl (lv_at hl 2 rfl) ?_
  obtain ⟨q1, hq1, h⟩ := ob h
  refine ml_i (ws' := wL4 a4 a2 a1 a3 a0 ao cI cZ cJ (q1.2, o)) (wr := wO ao cJ o) [0, 1, 2, 3, 4, 5, 6, 7, 8, 9, 10, 11, 12, 13, 14, 15, 16, 17, 18, 19, 20, 21, 22, 23, 24, 25, 26, 27, 28] [29] [1, 2, 3, 4, 5, 6, 7, 8, 9, 10, 11, 12, 13, 14, 15, 16, 17, 18, 19, 20, 21, 22, 23, 24, 25, 26, 27, 28, 29, 0] (vx_runV (As := [.int x1, .int x2]) (rest := [.int 0, .ref ao]) ⟨hx, hb, hml, hown, hts⟩ (c_X4_abstraction l hlt D cI cZ sa a4 a2 a1 a3 a0 N x y t k b x1 x2 q1.1 q1.2 hq1 H.size) (cwV 2 hts gL_abstraction_X4_abstraction rfl rfl rfl (by decide +kernel) ⟨Nat.le_of_ble_eq_true rfl, Nat.le_of_ble_eq_true rfl⟩) (pXV [0, 1, 2, 3, 4, 5, 6, 7, 8, 9, 10, 11, 12, 13, 14, 15, 16, 17, 18, 19, 20, 21, 22, 23, 24, 25, 26, 27, 28] hP hD hS hA hK hN hX rfl rfl rfl rfl) rfl rfl hl.1 rfl (lv_room (Nat.le_of_ble_eq_true rfl)) dL_abstraction_5 ⟨Nat.le_of_ble_eq_true rfl, Nat.le_of_ble_eq_true rfl⟩) hP hD hS hA rfl rfl rfl (by decide) rfl rfl (fun k9 hk9 ce q9 H locs hP hD hS hce hcv hcl => ?_) (fun r1 hr9 H locs hP hD hS => ?_)
  · rw [hk9, exL_inr] at h
    by_cases hk2 : k9 = 2
    · rw [if_pos hk2] at h
      subst hk2
      obtain ⟨rfl, rfl⟩ := so h
      refine cx_catch (E := exN 2) (name := exN 2) hown [] ⟨0, 10, 13, 24⟩ [⟨0, 10, 17, 13⟩, ⟨0, 10, 21, 15⟩] hT (fun z hz => by cases hz) (by decide) (by decide) (hts (.classLink RL 24 "java/lang/IndexOutOfBoundsException") (by decide +kernel)) (hX.cast 2) hce hcv hcl ?_
      refine lv_astore (lv' := [(4, .ref q9), (0, .ref (a4 0)), (1, .int x1), (2, .int x2), (3, .ref ao)]) hx hb dL_abstraction_13 hl (by decide) rfl (fun ls hl => ?_)
      refine lv_iconst (v := 1) hx hb dL_abstraction_15 rfl ?_
      exact lret_i C0 hP hD hS dL_abstraction_16 (by decide) (by decide)
    rw [if_neg hk2] at h
    by_cases hk0 : k9 = 0
    · rw [if_pos hk0] at h
      subst hk0
      obtain ⟨rfl, rfl⟩ := so h
      refine cx_catch (E := exN 0) (name := exN 0) hown [⟨0, 10, 13, 24⟩] ⟨0, 10, 17, 13⟩ [⟨0, 10, 21, 15⟩] hT (fun z hz => ?_) (by decide) (by decide) (hts (.classLink RL 13 "java/lang/IllegalArgumentException") (by decide +kernel)) (hX.cast 0) hce hcv hcl ?_
      · simp only [List.mem_cons, List.not_mem_nil, or_false] at hz
        rcases hz with rfl
        · exact Or.inr ⟨by decide, "java/lang/IndexOutOfBoundsException", hts (.classLink RL 24 "java/lang/IndexOutOfBoundsException") (by decide +kernel), hC ("java/lang/IllegalArgumentException", "java/lang/IndexOutOfBoundsException") (by decide)⟩
      refine lv_astore (lv' := [(4, .ref q9), (0, .ref (a4 0)), (1, .int x1), (2, .int x2), (3, .ref ao)]) hx hb dL_abstraction_17 hl (by decide) rfl (fun ls hl => ?_)
      refine lv_iconst (v := 2) hx hb dL_abstraction_19 rfl ?_
      exact lret_i C0 hP hD hS dL_abstraction_20 (by decide) (by decide)
    rw [if_neg hk0] at h
    by_cases hk1 : k9 = 1
    · rw [if_pos hk1] at h
      subst hk1
      obtain ⟨rfl, rfl⟩ := so h
      refine cx_catch (E := exN 1) (name := exN 1) hown [⟨0, 10, 13, 24⟩, ⟨0, 10, 17, 13⟩] ⟨0, 10, 21, 15⟩ [] hT (fun z hz => ?_) (by decide) (by decide) (hts (.classLink RL 15 "java/lang/IllegalStateException") (by decide +kernel)) (hX.cast 1) hce hcv hcl ?_
      · simp only [List.mem_cons, List.not_mem_nil, or_false] at hz
        rcases hz with rfl | rfl
        · exact Or.inr ⟨by decide, "java/lang/IndexOutOfBoundsException", hts (.classLink RL 24 "java/lang/IndexOutOfBoundsException") (by decide +kernel), hC ("java/lang/IllegalStateException", "java/lang/IndexOutOfBoundsException") (by decide)⟩
        · exact Or.inr ⟨by decide, "java/lang/IllegalArgumentException", hts (.classLink RL 13 "java/lang/IllegalArgumentException") (by decide +kernel), hC ("java/lang/IllegalStateException", "java/lang/IllegalArgumentException") (by decide)⟩
      refine lv_astore (lv' := [(4, .ref q9), (0, .ref (a4 0)), (1, .int x1), (2, .int x2), (3, .ref ao)]) hx hb dL_abstraction_21 hl (by decide) rfl (fun ls hl => ?_)
      refine lv_iconst (v := 3) hx hb dL_abstraction_23 rfl ?_
      exact lret_i C0 hP hD hS dL_abstraction_24 (by decide) (by decide)
    rw [if_neg hk1] at h
    exact no h
  · rw [hr9, exL_inl] at h
    refine lv_i2l (v := Int32.toInt64 r1) hx hb dL_abstraction_8 rfl ?_
    refine va_last (f := o) hx hb hK3 hP hD hS 29 2 rfl rfl (i := 0) (x := (Int32.toInt64 r1)) (by unfold vp_in; decide) dL_abstraction_9 (fun H locs hP hD hS => ?_)
    obtain ⟨o1, eo1, h⟩ := bn h
    have hP : va_P D vwCl (wL4 a4 a2 a1 a3 a0 ao cI cZ cJ (q1.2, o1)) H := by rw [eo1]; exact hP
    have hD : va_D A (wL4 a4 a2 a1 a3 a0 ao cI cZ cJ (q1.2, o1)) := by rw [eo1]; exact hD
    refine lv_goto (tgt := 25) hx hb dL_abstraction_10 (by decide) ?_
    refine lv_iconst (v := 0) hx hb dL_abstraction_25 rfl ?_
    obtain ⟨rfl, rfl⟩ := so h
    exact lret_i C0 hP hD hS dL_abstraction_26 (by decide) (by decide)

def f_L_part (N : Nat) (x y t k b : St) (o : Nat → Int64) (x1 x2 : Int32) : Option (Int32 × SL) := (f_X4_part N x y t k b x1 x2).bind (fun q1 => exL q1.1 (fun r1 => bnd (vp_updL o (Int32.toNatClampNeg 0) (Int32.toInt64 r1)) (fun o1 => some (0, (q1.2, o1)))) (fun k => if k = 2 then some (1, (q1.2, o)) else if k = 0 then some (2, (q1.2, o)) else if k = 1 then some (3, (q1.2, o)) else none))
set_option maxHeartbeats 4000000 in
set_option maxRecDepth 100000 in
theorem c_L_part (l : Launch) (hlt : l.stackTraces = false) (D : va_G) (cI cZ cJ : ClassId) (sa : Nat → Nat) (a4 a2 a1 a3 a0 : Nat → Nat) (ao : Nat) (N : Nat) (x y t k b : St) (o : Nat → Int64) (x1 x2 : Int32) : ML9 l yL_part wsL_part ({ frames := 8, cells := 2, slots := 12, locals := 131 } : Room) D cI cZ cJ sa (wL4 a4 a2 a1 a3 a0 ao cI cZ cJ) [.ref (a4 0), .int x1, .int x2, .ref ao] ((x, y, t, k, b), o) 2 12 (f_L_part N x y t k b o x1 x2) := by
  refine ML9.of (cc := cL_part) (maxL := 5) (ret := (some .int)) (hh := [(0, 10, 13, 24), (0, 10, 17, 13), (0, 10, 21, 15)]) (own := RL) (by decide) rfl rfl (Nat.le_of_ble_eq_true rfl) ?_
  intro r u1 h p e s m args below meth c A C0 H locs ls hP hD hS hl
  obtain ⟨hx, hb, hml, hr, hown, hts, hlocks, hA, hK3, hN, hX, hT, hC⟩ := id C0
  have hK : va_K D vwCl (kT cI cZ) s := hK3.sub [0, 1] rfl
  have hl : lv_has ls 5 [(0, .ref (a4 0)), (1, .int x1), (2, .int x2), (3, .ref ao)] := hl
  unfold f_L_part at h
  refine lv_aload_n hx hb dL_part_0 rfl (lv_at hl 3 rfl) ?_
  refine lv_iconst (v := 0) hx hb dL_part_1 rfl ?_
  refine lv_aload_n hx hb dL_part_2 rfl (lv_at hl 0 rfl) ?_
  refine lv_iload_n hx hb dL_part_3 rfl (lv_at hl 1 rfl) ?_
  refine lv_iload_n hx hb dL_part_4 rfl (lv_at hl 2 rfl) ?_
  obtain ⟨q1, hq1, h⟩ := ob h
  refine ml_i (ws' := wL4 a4 a2 a1 a3 a0 ao cI cZ cJ (q1.2, o)) (wr := wO ao cJ o) [0, 1, 2, 3, 4, 5, 6, 7, 8, 9, 10, 11, 12, 13, 14, 15, 16, 17, 18, 19, 20, 21, 22, 23, 24, 25, 26, 27, 28] [29] [1, 2, 3, 4, 5, 6, 7, 8, 9, 10, 11, 12, 13, 14, 15, 16, 17, 18, 19, 20, 21, 22, 23, 24, 25, 26, 27, 28, 29, 0] (vx_runV (As := [.int x1, .int x2]) (rest := [.int 0, .ref ao]) ⟨hx, hb, hml, hown, hts⟩ (c_X4_part l hlt D cI cZ sa a4 a2 a1 a3 a0 N x y t k b x1 x2 q1.1 q1.2 hq1 H.size) (cwV 2 hts gL_part_X4_part rfl rfl rfl (by decide +kernel) ⟨Nat.le_of_ble_eq_true rfl, Nat.le_of_ble_eq_true rfl⟩) (pXV [0, 1, 2, 3, 4, 5, 6, 7, 8, 9, 10, 11, 12, 13, 14, 15, 16, 17, 18, 19, 20, 21, 22, 23, 24, 25, 26, 27, 28] hP hD hS hA hK hN hX rfl rfl rfl rfl) rfl rfl hl.1 rfl (lv_room (Nat.le_of_ble_eq_true rfl)) dL_part_5 ⟨Nat.le_of_ble_eq_true rfl, Nat.le_of_ble_eq_true rfl⟩) hP hD hS hA rfl rfl rfl (by decide) rfl rfl (fun k9 hk9 ce q9 H locs hP hD hS hce hcv hcl => ?_) (fun r1 hr9 H locs hP hD hS => ?_)
  · rw [hk9, exL_inr] at h
    by_cases hk2 : k9 = 2
    · rw [if_pos hk2] at h
      subst hk2
      obtain ⟨rfl, rfl⟩ := so h
      refine cx_catch (E := exN 2) (name := exN 2) hown [] ⟨0, 10, 13, 24⟩ [⟨0, 10, 17, 13⟩, ⟨0, 10, 21, 15⟩] hT (fun z hz => by cases hz) (by decide) (by decide) (hts (.classLink RL 24 "java/lang/IndexOutOfBoundsException") (by decide +kernel)) (hX.cast 2) hce hcv hcl ?_
      refine lv_astore (lv' := [(4, .ref q9), (0, .ref (a4 0)), (1, .int x1), (2, .int x2), (3, .ref ao)]) hx hb dL_part_13 hl (by decide) rfl (fun ls hl => ?_)
      refine lv_iconst (v := 1) hx hb dL_part_15 rfl ?_
      exact lret_i C0 hP hD hS dL_part_16 (by decide) (by decide)
    rw [if_neg hk2] at h
    by_cases hk0 : k9 = 0
    · rw [if_pos hk0] at h
      subst hk0
      obtain ⟨rfl, rfl⟩ := so h
      refine cx_catch (E := exN 0) (name := exN 0) hown [⟨0, 10, 13, 24⟩] ⟨0, 10, 17, 13⟩ [⟨0, 10, 21, 15⟩] hT (fun z hz => ?_) (by decide) (by decide) (hts (.classLink RL 13 "java/lang/IllegalArgumentException") (by decide +kernel)) (hX.cast 0) hce hcv hcl ?_
      · simp only [List.mem_cons, List.not_mem_nil, or_false] at hz
        rcases hz with rfl
        · exact Or.inr ⟨by decide, "java/lang/IndexOutOfBoundsException", hts (.classLink RL 24 "java/lang/IndexOutOfBoundsException") (by decide +kernel), hC ("java/lang/IllegalArgumentException", "java/lang/IndexOutOfBoundsException") (by decide)⟩
      refine lv_astore (lv' := [(4, .ref q9), (0, .ref (a4 0)), (1, .int x1), (2, .int x2), (3, .ref ao)]) hx hb dL_part_17 hl (by decide) rfl (fun ls hl => ?_)
      refine lv_iconst (v := 2) hx hb dL_part_19 rfl ?_
      exact lret_i C0 hP hD hS dL_part_20 (by decide) (by decide)
    rw [if_neg hk0] at h
    by_cases hk1 : k9 = 1
    · rw [if_pos hk1] at h
      subst hk1
      obtain ⟨rfl, rfl⟩ := so h
      refine cx_catch (E := exN 1) (name := exN 1) hown [⟨0, 10, 13, 24⟩, ⟨0, 10, 17, 13⟩] ⟨0, 10, 21, 15⟩ [] hT (fun z hz => ?_) (by decide) (by decide) (hts (.classLink RL 15 "java/lang/IllegalStateException") (by decide +kernel)) (hX.cast 1) hce hcv hcl ?_
      · simp only [List.mem_cons, List.not_mem_nil, or_false] at hz
        rcases hz with rfl | rfl
        · exact Or.inr ⟨by decide, "java/lang/IndexOutOfBoundsException", hts (.classLink RL 24 "java/lang/IndexOutOfBoundsException") (by decide +kernel), hC ("java/lang/IllegalStateException", "java/lang/IndexOutOfBoundsException") (by decide)⟩
        · exact Or.inr ⟨by decide, "java/lang/IllegalArgumentException", hts (.classLink RL 13 "java/lang/IllegalArgumentException") (by decide +kernel), hC ("java/lang/IllegalStateException", "java/lang/IllegalArgumentException") (by decide)⟩
      refine lv_astore (lv' := [(4, .ref q9), (0, .ref (a4 0)), (1, .int x1), (2, .int x2), (3, .ref ao)]) hx hb dL_part_21 hl (by decide) rfl (fun ls hl => ?_)
      refine lv_iconst (v := 3) hx hb dL_part_23 rfl ?_
      exact lret_i C0 hP hD hS dL_part_24 (by decide) (by decide)
    rw [if_neg hk1] at h
    exact no h
  · rw [hr9, exL_inl] at h
    refine lv_i2l (v := Int32.toInt64 r1) hx hb dL_part_8 rfl ?_
    refine va_last (f := o) hx hb hK3 hP hD hS 29 2 rfl rfl (i := 0) (x := (Int32.toInt64 r1)) (by unfold vp_in; decide) dL_part_9 (fun H locs hP hD hS => ?_)
    obtain ⟨o1, eo1, h⟩ := bn h
    have hP : va_P D vwCl (wL4 a4 a2 a1 a3 a0 ao cI cZ cJ (q1.2, o1)) H := by rw [eo1]; exact hP
    have hD : va_D A (wL4 a4 a2 a1 a3 a0 ao cI cZ cJ (q1.2, o1)) := by rw [eo1]; exact hD
    refine lv_goto (tgt := 25) hx hb dL_part_10 (by decide) ?_
    refine lv_iconst (v := 0) hx hb dL_part_25 rfl ?_
    obtain ⟨rfl, rfl⟩ := so h
    exact lret_i C0 hP hD hS dL_part_26 (by decide) (by decide)

def f_L_open (N : Nat) (x y t k b : St) (o : Nat → Int64) (x1 x2 : Int32) : Option (Int32 × SL) := (f_X4_open N x y t k b x1 x2).bind (fun q1 => exL q1.1 (fun r1 => bnd (vp_updL o (Int32.toNatClampNeg 0) (Int32.toInt64 r1)) (fun o1 => some (0, (q1.2, o1)))) (fun k => if k = 2 then some (1, (q1.2, o)) else if k = 0 then some (2, (q1.2, o)) else if k = 1 then some (3, (q1.2, o)) else none))
set_option maxHeartbeats 4000000 in
set_option maxRecDepth 100000 in
theorem c_L_open (l : Launch) (hlt : l.stackTraces = false) (D : va_G) (cI cZ cJ : ClassId) (sa : Nat → Nat) (a4 a2 a1 a3 a0 : Nat → Nat) (ao : Nat) (N : Nat) (x y t k b : St) (o : Nat → Int64) (x1 x2 : Int32) : ML9 l yL_open wsL_open ({ frames := 8, cells := 3, slots := 18, locals := 154 } : Room) D cI cZ cJ sa (wL4 a4 a2 a1 a3 a0 ao cI cZ cJ) [.ref (a4 0), .int x1, .int x2, .ref ao] ((x, y, t, k, b), o) 3 18 (f_L_open N x y t k b o x1 x2) := by
  refine ML9.of (cc := cL_open) (maxL := 5) (ret := (some .int)) (hh := [(0, 10, 13, 24), (0, 10, 17, 13), (0, 10, 21, 15)]) (own := RL) (by decide) rfl rfl (Nat.le_of_ble_eq_true rfl) ?_
  intro r u1 h p e s m args below meth c A C0 H locs ls hP hD hS hl
  obtain ⟨hx, hb, hml, hr, hown, hts, hlocks, hA, hK3, hN, hX, hT, hC⟩ := id C0
  have hK : va_K D vwCl (kT cI cZ) s := hK3.sub [0, 1] rfl
  have hl : lv_has ls 5 [(0, .ref (a4 0)), (1, .int x1), (2, .int x2), (3, .ref ao)] := hl
  unfold f_L_open at h
  refine lv_aload_n hx hb dL_open_0 rfl (lv_at hl 3 rfl) ?_
  refine lv_iconst (v := 0) hx hb dL_open_1 rfl ?_
  refine lv_aload_n hx hb dL_open_2 rfl (lv_at hl 0 rfl) ?_
  refine lv_iload_n hx hb dL_open_3 rfl (lv_at hl 1 rfl) ?_
  refine lv_iload_n hx hb dL_open_4 rfl (lv_at hl 2 rfl) ?_
  obtain ⟨q1, hq1, h⟩ := ob h
  refine ml_i (ws' := wL4 a4 a2 a1 a3 a0 ao cI cZ cJ (q1.2, o)) (wr := wO ao cJ o) [0, 1, 2, 3, 4, 5, 6, 7, 8, 9, 10, 11, 12, 13, 14, 15, 16, 17, 18, 19, 20, 21, 22, 23, 24, 25, 26, 27, 28] [29] [1, 2, 3, 4, 5, 6, 7, 8, 9, 10, 11, 12, 13, 14, 15, 16, 17, 18, 19, 20, 21, 22, 23, 24, 25, 26, 27, 28, 29, 0] (vx_runV (As := [.int x1, .int x2]) (rest := [.int 0, .ref ao]) ⟨hx, hb, hml, hown, hts⟩ (c_X4_open l hlt D cI cZ sa a4 a2 a1 a3 a0 N x y t k b x1 x2 q1.1 q1.2 hq1 H.size) (cwV 2 hts gL_open_X4_open rfl rfl rfl (by decide +kernel) ⟨Nat.le_of_ble_eq_true rfl, Nat.le_of_ble_eq_true rfl⟩) (pXV [0, 1, 2, 3, 4, 5, 6, 7, 8, 9, 10, 11, 12, 13, 14, 15, 16, 17, 18, 19, 20, 21, 22, 23, 24, 25, 26, 27, 28] hP hD hS hA hK hN hX rfl rfl rfl rfl) rfl rfl hl.1 rfl (lv_room (Nat.le_of_ble_eq_true rfl)) dL_open_5 ⟨Nat.le_of_ble_eq_true rfl, Nat.le_of_ble_eq_true rfl⟩) hP hD hS hA rfl rfl rfl (by decide) rfl rfl (fun k9 hk9 ce q9 H locs hP hD hS hce hcv hcl => ?_) (fun r1 hr9 H locs hP hD hS => ?_)
  · rw [hk9, exL_inr] at h
    by_cases hk2 : k9 = 2
    · rw [if_pos hk2] at h
      subst hk2
      obtain ⟨rfl, rfl⟩ := so h
      refine cx_catch (E := exN 2) (name := exN 2) hown [] ⟨0, 10, 13, 24⟩ [⟨0, 10, 17, 13⟩, ⟨0, 10, 21, 15⟩] hT (fun z hz => by cases hz) (by decide) (by decide) (hts (.classLink RL 24 "java/lang/IndexOutOfBoundsException") (by decide +kernel)) (hX.cast 2) hce hcv hcl ?_
      refine lv_astore (lv' := [(4, .ref q9), (0, .ref (a4 0)), (1, .int x1), (2, .int x2), (3, .ref ao)]) hx hb dL_open_13 hl (by decide) rfl (fun ls hl => ?_)
      refine lv_iconst (v := 1) hx hb dL_open_15 rfl ?_
      exact lret_i C0 hP hD hS dL_open_16 (by decide) (by decide)
    rw [if_neg hk2] at h
    by_cases hk0 : k9 = 0
    · rw [if_pos hk0] at h
      subst hk0
      obtain ⟨rfl, rfl⟩ := so h
      refine cx_catch (E := exN 0) (name := exN 0) hown [⟨0, 10, 13, 24⟩] ⟨0, 10, 17, 13⟩ [⟨0, 10, 21, 15⟩] hT (fun z hz => ?_) (by decide) (by decide) (hts (.classLink RL 13 "java/lang/IllegalArgumentException") (by decide +kernel)) (hX.cast 0) hce hcv hcl ?_
      · simp only [List.mem_cons, List.not_mem_nil, or_false] at hz
        rcases hz with rfl
        · exact Or.inr ⟨by decide, "java/lang/IndexOutOfBoundsException", hts (.classLink RL 24 "java/lang/IndexOutOfBoundsException") (by decide +kernel), hC ("java/lang/IllegalArgumentException", "java/lang/IndexOutOfBoundsException") (by decide)⟩
      refine lv_astore (lv' := [(4, .ref q9), (0, .ref (a4 0)), (1, .int x1), (2, .int x2), (3, .ref ao)]) hx hb dL_open_17 hl (by decide) rfl (fun ls hl => ?_)
      refine lv_iconst (v := 2) hx hb dL_open_19 rfl ?_
      exact lret_i C0 hP hD hS dL_open_20 (by decide) (by decide)
    rw [if_neg hk0] at h
    by_cases hk1 : k9 = 1
    · rw [if_pos hk1] at h
      subst hk1
      obtain ⟨rfl, rfl⟩ := so h
      refine cx_catch (E := exN 1) (name := exN 1) hown [⟨0, 10, 13, 24⟩, ⟨0, 10, 17, 13⟩] ⟨0, 10, 21, 15⟩ [] hT (fun z hz => ?_) (by decide) (by decide) (hts (.classLink RL 15 "java/lang/IllegalStateException") (by decide +kernel)) (hX.cast 1) hce hcv hcl ?_
      · simp only [List.mem_cons, List.not_mem_nil, or_false] at hz
        rcases hz with rfl | rfl
        · exact Or.inr ⟨by decide, "java/lang/IndexOutOfBoundsException", hts (.classLink RL 24 "java/lang/IndexOutOfBoundsException") (by decide +kernel), hC ("java/lang/IllegalStateException", "java/lang/IndexOutOfBoundsException") (by decide)⟩
        · exact Or.inr ⟨by decide, "java/lang/IllegalArgumentException", hts (.classLink RL 13 "java/lang/IllegalArgumentException") (by decide +kernel), hC ("java/lang/IllegalStateException", "java/lang/IllegalArgumentException") (by decide)⟩
      refine lv_astore (lv' := [(4, .ref q9), (0, .ref (a4 0)), (1, .int x1), (2, .int x2), (3, .ref ao)]) hx hb dL_open_21 hl (by decide) rfl (fun ls hl => ?_)
      refine lv_iconst (v := 3) hx hb dL_open_23 rfl ?_
      exact lret_i C0 hP hD hS dL_open_24 (by decide) (by decide)
    rw [if_neg hk1] at h
    exact no h
  · rw [hr9, exL_inl] at h
    refine lv_i2l (v := Int32.toInt64 r1) hx hb dL_open_8 rfl ?_
    refine va_last (f := o) hx hb hK3 hP hD hS 29 2 rfl rfl (i := 0) (x := (Int32.toInt64 r1)) (by unfold vp_in; decide) dL_open_9 (fun H locs hP hD hS => ?_)
    obtain ⟨o1, eo1, h⟩ := bn h
    have hP : va_P D vwCl (wL4 a4 a2 a1 a3 a0 ao cI cZ cJ (q1.2, o1)) H := by rw [eo1]; exact hP
    have hD : va_D A (wL4 a4 a2 a1 a3 a0 ao cI cZ cJ (q1.2, o1)) := by rw [eo1]; exact hD
    refine lv_goto (tgt := 25) hx hb dL_open_10 (by decide) ?_
    refine lv_iconst (v := 0) hx hb dL_open_25 rfl ?_
    obtain ⟨rfl, rfl⟩ := so h
    exact lret_i C0 hP hD hS dL_open_26 (by decide) (by decide)

def f_L_put (N : Nat) (x y t k b : St) (o : Nat → Int64) (x1 x2 x3 : Int32) : Option (Int32 × SL) := (f_X4_put N x y t k b x1 x2 x3).bind (fun q1 => exL q1.1 (fun r1 => bnd (vp_updL o (Int32.toNatClampNeg 0) (Int32.toInt64 r1)) (fun o1 => some (0, (q1.2, o1)))) (fun k => if k = 2 then some (1, (q1.2, o)) else if k = 0 then some (2, (q1.2, o)) else if k = 1 then some (3, (q1.2, o)) else none))
set_option maxHeartbeats 4000000 in
set_option maxRecDepth 100000 in
theorem c_L_put (l : Launch) (hlt : l.stackTraces = false) (D : va_G) (cI cZ cJ : ClassId) (sa : Nat → Nat) (a4 a2 a1 a3 a0 : Nat → Nat) (ao : Nat) (N : Nat) (x y t k b : St) (o : Nat → Int64) (x1 x2 x3 : Int32) : ML9 l yL_put wsL_put ({ frames := 8, cells := 5, slots := 30, locals := 156 } : Room) D cI cZ cJ sa (wL4 a4 a2 a1 a3 a0 ao cI cZ cJ) [.ref (a4 0), .int x1, .int x2, .int x3, .ref ao] ((x, y, t, k, b), o) 5 30 (f_L_put N x y t k b o x1 x2 x3) := by
  refine ML9.of (cc := cL_put) (maxL := 6) (ret := (some .int)) (hh := [(0, 12, 15, 24), (0, 12, 19, 13), (0, 12, 23, 15)]) (own := RL) (by decide) rfl rfl (Nat.le_of_ble_eq_true rfl) ?_
  intro r u1 h p e s m args below meth c A C0 H locs ls hP hD hS hl
  obtain ⟨hx, hb, hml, hr, hown, hts, hlocks, hA, hK3, hN, hX, hT, hC⟩ := id C0
  have hK : va_K D vwCl (kT cI cZ) s := hK3.sub [0, 1] rfl
  have hl : lv_has ls 6 [(0, .ref (a4 0)), (1, .int x1), (2, .int x2), (3, .int x3), (4, .ref ao)] := hl
  unfold f_L_put at h
  refine lv_aload hx hb dL_put_0 (lv_at hl 4 rfl) ?_
  refine lv_iconst (v := 0) hx hb dL_put_2 rfl ?_
  refine lv_aload_n hx hb dL_put_3 rfl (lv_at hl 0 rfl) ?_
  refine lv_iload_n hx hb dL_put_4 rfl (lv_at hl 1 rfl) ?_
  refine lv_iload_n hx hb dL_put_5 rfl (lv_at hl 2 rfl) ?_
  refine lv_iload_n hx hb dL_put_6 rfl (lv_at hl 3 rfl) ?_
  obtain ⟨q1, hq1, h⟩ := ob h
  refine ml_i (ws' := wL4 a4 a2 a1 a3 a0 ao cI cZ cJ (q1.2, o)) (wr := wO ao cJ o) [0, 1, 2, 3, 4, 5, 6, 7, 8, 9, 10, 11, 12, 13, 14, 15, 16, 17, 18, 19, 20, 21, 22, 23, 24, 25, 26, 27, 28] [29] [1, 2, 3, 4, 5, 6, 7, 8, 9, 10, 11, 12, 13, 14, 15, 16, 17, 18, 19, 20, 21, 22, 23, 24, 25, 26, 27, 28, 29, 0] (vx_runV (As := [.int x1, .int x2, .int x3]) (rest := [.int 0, .ref ao]) ⟨hx, hb, hml, hown, hts⟩ (c_X4_put l hlt D cI cZ sa a4 a2 a1 a3 a0 N x y t k b x1 x2 x3 q1.1 q1.2 hq1 H.size) (cwV 3 hts gL_put_X4_put rfl rfl rfl (by decide +kernel) ⟨Nat.le_of_ble_eq_true rfl, Nat.le_of_ble_eq_true rfl⟩) (pXV [0, 1, 2, 3, 4, 5, 6, 7, 8, 9, 10, 11, 12, 13, 14, 15, 16, 17, 18, 19, 20, 21, 22, 23, 24, 25, 26, 27, 28] hP hD hS hA hK hN hX rfl rfl rfl rfl) rfl rfl hl.1 rfl (lv_room (Nat.le_of_ble_eq_true rfl)) dL_put_7 ⟨Nat.le_of_ble_eq_true rfl, Nat.le_of_ble_eq_true rfl⟩) hP hD hS hA rfl rfl rfl (by decide) rfl rfl (fun k9 hk9 ce q9 H locs hP hD hS hce hcv hcl => ?_) (fun r1 hr9 H locs hP hD hS => ?_)
  · rw [hk9, exL_inr] at h
    by_cases hk2 : k9 = 2
    · rw [if_pos hk2] at h
      subst hk2
      obtain ⟨rfl, rfl⟩ := so h
      refine cx_catch (E := exN 2) (name := exN 2) hown [] ⟨0, 12, 15, 24⟩ [⟨0, 12, 19, 13⟩, ⟨0, 12, 23, 15⟩] hT (fun z hz => by cases hz) (by decide) (by decide) (hts (.classLink RL 24 "java/lang/IndexOutOfBoundsException") (by decide +kernel)) (hX.cast 2) hce hcv hcl ?_
      refine lv_astore (lv' := [(5, .ref q9), (0, .ref (a4 0)), (1, .int x1), (2, .int x2), (3, .int x3), (4, .ref ao)]) hx hb dL_put_15 hl (by decide) rfl (fun ls hl => ?_)
      refine lv_iconst (v := 1) hx hb dL_put_17 rfl ?_
      exact lret_i C0 hP hD hS dL_put_18 (by decide) (by decide)
    rw [if_neg hk2] at h
    by_cases hk0 : k9 = 0
    · rw [if_pos hk0] at h
      subst hk0
      obtain ⟨rfl, rfl⟩ := so h
      refine cx_catch (E := exN 0) (name := exN 0) hown [⟨0, 12, 15, 24⟩] ⟨0, 12, 19, 13⟩ [⟨0, 12, 23, 15⟩] hT (fun z hz => ?_) (by decide) (by decide) (hts (.classLink RL 13 "java/lang/IllegalArgumentException") (by decide +kernel)) (hX.cast 0) hce hcv hcl ?_
      · simp only [List.mem_cons, List.not_mem_nil, or_false] at hz
        rcases hz with rfl
        · exact Or.inr ⟨by decide, "java/lang/IndexOutOfBoundsException", hts (.classLink RL 24 "java/lang/IndexOutOfBoundsException") (by decide +kernel), hC ("java/lang/IllegalArgumentException", "java/lang/IndexOutOfBoundsException") (by decide)⟩
      refine lv_astore (lv' := [(5, .ref q9), (0, .ref (a4 0)), (1, .int x1), (2, .int x2), (3, .int x3), (4, .ref ao)]) hx hb dL_put_19 hl (by decide) rfl (fun ls hl => ?_)
      refine lv_iconst (v := 2) hx hb dL_put_21 rfl ?_
      exact lret_i C0 hP hD hS dL_put_22 (by decide) (by decide)
    rw [if_neg hk0] at h
    by_cases hk1 : k9 = 1
    · rw [if_pos hk1] at h
      subst hk1
      obtain ⟨rfl, rfl⟩ := so h
      refine cx_catch (E := exN 1) (name := exN 1) hown [⟨0, 12, 15, 24⟩, ⟨0, 12, 19, 13⟩] ⟨0, 12, 23, 15⟩ [] hT (fun z hz => ?_) (by decide) (by decide) (hts (.classLink RL 15 "java/lang/IllegalStateException") (by decide +kernel)) (hX.cast 1) hce hcv hcl ?_
      · simp only [List.mem_cons, List.not_mem_nil, or_false] at hz
        rcases hz with rfl | rfl
        · exact Or.inr ⟨by decide, "java/lang/IndexOutOfBoundsException", hts (.classLink RL 24 "java/lang/IndexOutOfBoundsException") (by decide +kernel), hC ("java/lang/IllegalStateException", "java/lang/IndexOutOfBoundsException") (by decide)⟩
        · exact Or.inr ⟨by decide, "java/lang/IllegalArgumentException", hts (.classLink RL 13 "java/lang/IllegalArgumentException") (by decide +kernel), hC ("java/lang/IllegalStateException", "java/lang/IllegalArgumentException") (by decide)⟩
      refine lv_astore (lv' := [(5, .ref q9), (0, .ref (a4 0)), (1, .int x1), (2, .int x2), (3, .int x3), (4, .ref ao)]) hx hb dL_put_23 hl (by decide) rfl (fun ls hl => ?_)
      refine lv_iconst (v := 3) hx hb dL_put_25 rfl ?_
      exact lret_i C0 hP hD hS dL_put_26 (by decide) (by decide)
    rw [if_neg hk1] at h
    exact no h
  · rw [hr9, exL_inl] at h
    refine lv_i2l (v := Int32.toInt64 r1) hx hb dL_put_10 rfl ?_
    refine va_last (f := o) hx hb hK3 hP hD hS 29 2 rfl rfl (i := 0) (x := (Int32.toInt64 r1)) (by unfold vp_in; decide) dL_put_11 (fun H locs hP hD hS => ?_)
    obtain ⟨o1, eo1, h⟩ := bn h
    have hP : va_P D vwCl (wL4 a4 a2 a1 a3 a0 ao cI cZ cJ (q1.2, o1)) H := by rw [eo1]; exact hP
    have hD : va_D A (wL4 a4 a2 a1 a3 a0 ao cI cZ cJ (q1.2, o1)) := by rw [eo1]; exact hD
    refine lv_goto (tgt := 27) hx hb dL_put_12 (by decide) ?_
    refine lv_iconst (v := 0) hx hb dL_put_27 rfl ?_
    obtain ⟨rfl, rfl⟩ := so h
    exact lret_i C0 hP hD hS dL_put_28 (by decide) (by decide)

def f_L_retype (N : Nat) (x y t k b : St) (o : Nat → Int64) (x1 x2 x3 : Int32) : Option (Int32 × SL) := (f_X4_retype N x y t k b x1 x2 x3).bind (fun q1 => exL q1.1 (fun r1 => bnd (vp_updL o (Int32.toNatClampNeg 0) (Int32.toInt64 r1)) (fun o1 => some (0, (q1.2, o1)))) (fun k => if k = 2 then some (1, (q1.2, o)) else if k = 0 then some (2, (q1.2, o)) else if k = 1 then some (3, (q1.2, o)) else none))
set_option maxHeartbeats 4000000 in
set_option maxRecDepth 100000 in
theorem c_L_retype (l : Launch) (hlt : l.stackTraces = false) (D : va_G) (cI cZ cJ : ClassId) (sa : Nat → Nat) (a4 a2 a1 a3 a0 : Nat → Nat) (ao : Nat) (N : Nat) (x y t k b : St) (o : Nat → Int64) (x1 x2 x3 : Int32) : ML9 l yL_retype wsL_retype ({ frames := 130, cells := 4, slots := 24, locals := 5093 } : Room) D cI cZ cJ sa (wL4 a4 a2 a1 a3 a0 ao cI cZ cJ) [.ref (a4 0), .int x1, .int x2, .int x3, .ref ao] ((x, y, t, k, b), o) 4 24 (f_L_retype N x y t k b o x1 x2 x3) := by
  refine ML9.of (cc := cL_retype) (maxL := 6) (ret := (some .int)) (hh := [(0, 12, 15, 24), (0, 12, 19, 13), (0, 12, 23, 15)]) (own := RL) (by decide) rfl rfl (Nat.le_of_ble_eq_true rfl) ?_
  intro r u1 h p e s m args below meth c A C0 H locs ls hP hD hS hl
  obtain ⟨hx, hb, hml, hr, hown, hts, hlocks, hA, hK3, hN, hX, hT, hC⟩ := id C0
  have hK : va_K D vwCl (kT cI cZ) s := hK3.sub [0, 1] rfl
  have hl : lv_has ls 6 [(0, .ref (a4 0)), (1, .int x1), (2, .int x2), (3, .int x3), (4, .ref ao)] := hl
  unfold f_L_retype at h
  refine lv_aload hx hb dL_retype_0 (lv_at hl 4 rfl) ?_
  refine lv_iconst (v := 0) hx hb dL_retype_2 rfl ?_
  refine lv_aload_n hx hb dL_retype_3 rfl (lv_at hl 0 rfl) ?_
  refine lv_iload_n hx hb dL_retype_4 rfl (lv_at hl 1 rfl) ?_
  refine lv_iload_n hx hb dL_retype_5 rfl (lv_at hl 2 rfl) ?_
  refine lv_iload_n hx hb dL_retype_6 rfl (lv_at hl 3 rfl) ?_
  obtain ⟨q1, hq1, h⟩ := ob h
  refine ml_i (ws' := wL4 a4 a2 a1 a3 a0 ao cI cZ cJ (q1.2, o)) (wr := wO ao cJ o) [0, 1, 2, 3, 4, 5, 6, 7, 8, 9, 10, 11, 12, 13, 14, 15, 16, 17, 18, 19, 20, 21, 22, 23, 24, 25, 26, 27, 28] [29] [1, 2, 3, 4, 5, 6, 7, 8, 9, 10, 11, 12, 13, 14, 15, 16, 17, 18, 19, 20, 21, 22, 23, 24, 25, 26, 27, 28, 29, 0] (vx_runV (As := [.int x1, .int x2, .int x3]) (rest := [.int 0, .ref ao]) ⟨hx, hb, hml, hown, hts⟩ (c_X4_retype l hlt D cI cZ sa a4 a2 a1 a3 a0 N x y t k b x1 x2 x3 q1.1 q1.2 hq1 H.size) (cwV 3 hts gL_retype_X4_retype rfl rfl rfl (by decide +kernel) ⟨Nat.le_of_ble_eq_true rfl, Nat.le_of_ble_eq_true rfl⟩) (pXV [0, 1, 2, 3, 4, 5, 6, 7, 8, 9, 10, 11, 12, 13, 14, 15, 16, 17, 18, 19, 20, 21, 22, 23, 24, 25, 26, 27, 28] hP hD hS hA hK hN hX rfl rfl rfl rfl) rfl rfl hl.1 rfl (lv_room (Nat.le_of_ble_eq_true rfl)) dL_retype_7 ⟨Nat.le_of_ble_eq_true rfl, Nat.le_of_ble_eq_true rfl⟩) hP hD hS hA rfl rfl rfl (by decide) rfl rfl (fun k9 hk9 ce q9 H locs hP hD hS hce hcv hcl => ?_) (fun r1 hr9 H locs hP hD hS => ?_)
  · rw [hk9, exL_inr] at h
    by_cases hk2 : k9 = 2
    · rw [if_pos hk2] at h
      subst hk2
      obtain ⟨rfl, rfl⟩ := so h
      refine cx_catch (E := exN 2) (name := exN 2) hown [] ⟨0, 12, 15, 24⟩ [⟨0, 12, 19, 13⟩, ⟨0, 12, 23, 15⟩] hT (fun z hz => by cases hz) (by decide) (by decide) (hts (.classLink RL 24 "java/lang/IndexOutOfBoundsException") (by decide +kernel)) (hX.cast 2) hce hcv hcl ?_
      refine lv_astore (lv' := [(5, .ref q9), (0, .ref (a4 0)), (1, .int x1), (2, .int x2), (3, .int x3), (4, .ref ao)]) hx hb dL_retype_15 hl (by decide) rfl (fun ls hl => ?_)
      refine lv_iconst (v := 1) hx hb dL_retype_17 rfl ?_
      exact lret_i C0 hP hD hS dL_retype_18 (by decide) (by decide)
    rw [if_neg hk2] at h
    by_cases hk0 : k9 = 0
    · rw [if_pos hk0] at h
      subst hk0
      obtain ⟨rfl, rfl⟩ := so h
      refine cx_catch (E := exN 0) (name := exN 0) hown [⟨0, 12, 15, 24⟩] ⟨0, 12, 19, 13⟩ [⟨0, 12, 23, 15⟩] hT (fun z hz => ?_) (by decide) (by decide) (hts (.classLink RL 13 "java/lang/IllegalArgumentException") (by decide +kernel)) (hX.cast 0) hce hcv hcl ?_
      · simp only [List.mem_cons, List.not_mem_nil, or_false] at hz
        rcases hz with rfl
        · exact Or.inr ⟨by decide, "java/lang/IndexOutOfBoundsException", hts (.classLink RL 24 "java/lang/IndexOutOfBoundsException") (by decide +kernel), hC ("java/lang/IllegalArgumentException", "java/lang/IndexOutOfBoundsException") (by decide)⟩
      refine lv_astore (lv' := [(5, .ref q9), (0, .ref (a4 0)), (1, .int x1), (2, .int x2), (3, .int x3), (4, .ref ao)]) hx hb dL_retype_19 hl (by decide) rfl (fun ls hl => ?_)
      refine lv_iconst (v := 2) hx hb dL_retype_21 rfl ?_
      exact lret_i C0 hP hD hS dL_retype_22 (by decide) (by decide)
    rw [if_neg hk0] at h
    by_cases hk1 : k9 = 1
    · rw [if_pos hk1] at h
      subst hk1
      obtain ⟨rfl, rfl⟩ := so h
      refine cx_catch (E := exN 1) (name := exN 1) hown [⟨0, 12, 15, 24⟩, ⟨0, 12, 19, 13⟩] ⟨0, 12, 23, 15⟩ [] hT (fun z hz => ?_) (by decide) (by decide) (hts (.classLink RL 15 "java/lang/IllegalStateException") (by decide +kernel)) (hX.cast 1) hce hcv hcl ?_
      · simp only [List.mem_cons, List.not_mem_nil, or_false] at hz
        rcases hz with rfl | rfl
        · exact Or.inr ⟨by decide, "java/lang/IndexOutOfBoundsException", hts (.classLink RL 24 "java/lang/IndexOutOfBoundsException") (by decide +kernel), hC ("java/lang/IllegalStateException", "java/lang/IndexOutOfBoundsException") (by decide)⟩
        · exact Or.inr ⟨by decide, "java/lang/IllegalArgumentException", hts (.classLink RL 13 "java/lang/IllegalArgumentException") (by decide +kernel), hC ("java/lang/IllegalStateException", "java/lang/IllegalArgumentException") (by decide)⟩
      refine lv_astore (lv' := [(5, .ref q9), (0, .ref (a4 0)), (1, .int x1), (2, .int x2), (3, .int x3), (4, .ref ao)]) hx hb dL_retype_23 hl (by decide) rfl (fun ls hl => ?_)
      refine lv_iconst (v := 3) hx hb dL_retype_25 rfl ?_
      exact lret_i C0 hP hD hS dL_retype_26 (by decide) (by decide)
    rw [if_neg hk1] at h
    exact no h
  · rw [hr9, exL_inl] at h
    refine lv_i2l (v := Int32.toInt64 r1) hx hb dL_retype_10 rfl ?_
    refine va_last (f := o) hx hb hK3 hP hD hS 29 2 rfl rfl (i := 0) (x := (Int32.toInt64 r1)) (by unfold vp_in; decide) dL_retype_11 (fun H locs hP hD hS => ?_)
    obtain ⟨o1, eo1, h⟩ := bn h
    have hP : va_P D vwCl (wL4 a4 a2 a1 a3 a0 ao cI cZ cJ (q1.2, o1)) H := by rw [eo1]; exact hP
    have hD : va_D A (wL4 a4 a2 a1 a3 a0 ao cI cZ cJ (q1.2, o1)) := by rw [eo1]; exact hD
    refine lv_goto (tgt := 27) hx hb dL_retype_12 (by decide) ?_
    refine lv_iconst (v := 0) hx hb dL_retype_27 rfl ?_
    obtain ⟨rfl, rfl⟩ := so h
    exact lret_i C0 hP hD hS dL_retype_28 (by decide) (by decide)

def f_L_typeOf (N : Nat) (x y t k b : St) (o : Nat → Int64) (x1 : Int32) : Option (Int32 × SL) := (f_X4_typeOf N x y t k b x1).bind (fun q1 => exL q1.1 (fun r1 => bnd (vp_updL o (Int32.toNatClampNeg 0) (Int32.toInt64 r1)) (fun o1 => some (0, (q1.2, o1)))) (fun k => if k = 2 then some (1, (q1.2, o)) else if k = 1 then some (2, (q1.2, o)) else none))
set_option maxHeartbeats 4000000 in
set_option maxRecDepth 100000 in
theorem c_L_typeOf (l : Launch) (hlt : l.stackTraces = false) (D : va_G) (cI cZ cJ : ClassId) (sa : Nat → Nat) (a4 a2 a1 a3 a0 : Nat → Nat) (ao : Nat) (N : Nat) (x y t k b : St) (o : Nat → Int64) (x1 : Int32) : ML9 l yL_typeOf wsL_typeOf ({ frames := 8, cells := 2, slots := 12, locals := 125 } : Room) D cI cZ cJ sa (wL4 a4 a2 a1 a3 a0 ao cI cZ cJ) [.ref (a4 0), .int x1, .ref ao] ((x, y, t, k, b), o) 2 12 (f_L_typeOf N x y t k b o x1) := by
  refine ML9.of (cc := cL_typeOf) (maxL := 4) (ret := (some .int)) (hh := [(0, 9, 12, 24), (0, 9, 15, 15)]) (own := RL) (by decide) rfl rfl (Nat.le_of_ble_eq_true rfl) ?_
  intro r u1 h p e s m args below meth c A C0 H locs ls hP hD hS hl
  obtain ⟨hx, hb, hml, hr, hown, hts, hlocks, hA, hK3, hN, hX, hT, hC⟩ := id C0
  have hK : va_K D vwCl (kT cI cZ) s := hK3.sub [0, 1] rfl
  have hl : lv_has ls 4 [(0, .ref (a4 0)), (1, .int x1), (2, .ref ao)] := hl
  unfold f_L_typeOf at h
  refine lv_aload_n hx hb dL_typeOf_0 rfl (lv_at hl 2 rfl) ?_
  refine lv_iconst (v := 0) hx hb dL_typeOf_1 rfl ?_
  refine lv_aload_n hx hb dL_typeOf_2 rfl (lv_at hl 0 rfl) ?_
  refine lv_iload_n hx hb dL_typeOf_3 rfl (lv_at hl 1 rfl) ?_
  obtain ⟨q1, hq1, h⟩ := ob h
  refine ml_i (ws' := wL4 a4 a2 a1 a3 a0 ao cI cZ cJ (q1.2, o)) (wr := wO ao cJ o) [0, 1, 2, 3, 4, 5, 6, 7, 8, 9, 10, 11, 12, 13, 14, 15, 16, 17, 18, 19, 20, 21, 22, 23, 24, 25, 26, 27, 28] [29] [1, 2, 3, 4, 5, 6, 7, 8, 9, 10, 11, 12, 13, 14, 15, 16, 17, 18, 19, 20, 21, 22, 23, 24, 25, 26, 27, 28, 29, 0] (vx_runV (As := [.int x1]) (rest := [.int 0, .ref ao]) ⟨hx, hb, hml, hown, hts⟩ (c_X4_typeOf l hlt D cI cZ sa a4 a2 a1 a3 a0 N x y t k b x1 q1.1 q1.2 hq1 H.size) (cwV 1 hts gL_typeOf_X4_typeOf rfl rfl rfl (by decide +kernel) ⟨Nat.le_of_ble_eq_true rfl, Nat.le_of_ble_eq_true rfl⟩) (pXV [0, 1, 2, 3, 4, 5, 6, 7, 8, 9, 10, 11, 12, 13, 14, 15, 16, 17, 18, 19, 20, 21, 22, 23, 24, 25, 26, 27, 28] hP hD hS hA hK hN hX rfl rfl rfl rfl) rfl rfl hl.1 rfl (lv_room (Nat.le_of_ble_eq_true rfl)) dL_typeOf_4 ⟨Nat.le_of_ble_eq_true rfl, Nat.le_of_ble_eq_true rfl⟩) hP hD hS hA rfl rfl rfl (by decide) rfl rfl (fun k9 hk9 ce q9 H locs hP hD hS hce hcv hcl => ?_) (fun r1 hr9 H locs hP hD hS => ?_)
  · rw [hk9, exL_inr] at h
    by_cases hk2 : k9 = 2
    · rw [if_pos hk2] at h
      subst hk2
      obtain ⟨rfl, rfl⟩ := so h
      refine cx_catch (E := exN 2) (name := exN 2) hown [] ⟨0, 9, 12, 24⟩ [⟨0, 9, 15, 15⟩] hT (fun z hz => by cases hz) (by decide) (by decide) (hts (.classLink RL 24 "java/lang/IndexOutOfBoundsException") (by decide +kernel)) (hX.cast 2) hce hcv hcl ?_
      refine lv_astore_n (lv' := [(3, .ref q9), (0, .ref (a4 0)), (1, .int x1), (2, .ref ao)]) hx hb dL_typeOf_12 rfl hl (by decide) rfl (fun ls hl => ?_)
      refine lv_iconst (v := 1) hx hb dL_typeOf_13 rfl ?_
      exact lret_i C0 hP hD hS dL_typeOf_14 (by decide) (by decide)
    rw [if_neg hk2] at h
    by_cases hk1 : k9 = 1
    · rw [if_pos hk1] at h
      subst hk1
      obtain ⟨rfl, rfl⟩ := so h
      refine cx_catch (E := exN 1) (name := exN 1) hown [⟨0, 9, 12, 24⟩] ⟨0, 9, 15, 15⟩ [] hT (fun z hz => ?_) (by decide) (by decide) (hts (.classLink RL 15 "java/lang/IllegalStateException") (by decide +kernel)) (hX.cast 1) hce hcv hcl ?_
      · simp only [List.mem_cons, List.not_mem_nil, or_false] at hz
        rcases hz with rfl
        · exact Or.inr ⟨by decide, "java/lang/IndexOutOfBoundsException", hts (.classLink RL 24 "java/lang/IndexOutOfBoundsException") (by decide +kernel), hC ("java/lang/IllegalStateException", "java/lang/IndexOutOfBoundsException") (by decide)⟩
      refine lv_astore_n (lv' := [(3, .ref q9), (0, .ref (a4 0)), (1, .int x1), (2, .ref ao)]) hx hb dL_typeOf_15 rfl hl (by decide) rfl (fun ls hl => ?_)
      refine lv_iconst (v := 2) hx hb dL_typeOf_16 rfl ?_
      exact lret_i C0 hP hD hS dL_typeOf_17 (by decide) (by decide)
    rw [if_neg hk1] at h
    exact no h
  · rw [hr9, exL_inl] at h
    refine lv_i2l (v := Int32.toInt64 r1) hx hb dL_typeOf_7 rfl ?_
    refine va_last (f := o) hx hb hK3 hP hD hS 29 2 rfl rfl (i := 0) (x := (Int32.toInt64 r1)) (by unfold vp_in; decide) dL_typeOf_8 (fun H locs hP hD hS => ?_)
    obtain ⟨o1, eo1, h⟩ := bn h
    have hP : va_P D vwCl (wL4 a4 a2 a1 a3 a0 ao cI cZ cJ (q1.2, o1)) H := by rw [eo1]; exact hP
    have hD : va_D A (wL4 a4 a2 a1 a3 a0 ao cI cZ cJ (q1.2, o1)) := by rw [eo1]; exact hD
    refine lv_goto (tgt := 18) hx hb dL_typeOf_9 (by decide) ?_
    refine lv_iconst (v := 0) hx hb dL_typeOf_18 rfl ?_
    obtain ⟨rfl, rfl⟩ := so h
    exact lret_i C0 hP hD hS dL_typeOf_19 (by decide) (by decide)

def f_L_symbol (N : Nat) (x y t k b : St) (o : Nat → Int64) (x1 x2 : Int32) : Option (Int32 × SL) := (f_X4_symbol N x y t k b x1 x2).bind (fun q1 => exL q1.1 (fun r1 => bnd (vp_updL o (Int32.toNatClampNeg 0) (Int32.toInt64 r1)) (fun o1 => some (0, (q1.2, o1)))) (fun k => if k = 2 then some (1, (q1.2, o)) else none))
set_option maxHeartbeats 4000000 in
set_option maxRecDepth 100000 in
theorem c_L_symbol (l : Launch) (hlt : l.stackTraces = false) (D : va_G) (cI cZ cJ : ClassId) (sa : Nat → Nat) (a4 a2 a1 a3 a0 : Nat → Nat) (ao : Nat) (N : Nat) (x y t k b : St) (o : Nat → Int64) (x1 x2 : Int32) : ML9 l yL_symbol wsL_symbol ({ frames := 8, cells := 2, slots := 12, locals := 125 } : Room) D cI cZ cJ sa (wL4 a4 a2 a1 a3 a0 ao cI cZ cJ) [.ref (a4 0), .int x1, .int x2, .ref ao] ((x, y, t, k, b), o) 2 12 (f_L_symbol N x y t k b o x1 x2) := by
  refine ML9.of (cc := cL_symbol) (maxL := 5) (ret := (some .int)) (hh := [(0, 10, 13, 24)]) (own := RL) (by decide) rfl rfl (Nat.le_of_ble_eq_true rfl) ?_
  intro r u1 h p e s m args below meth c A C0 H locs ls hP hD hS hl
  obtain ⟨hx, hb, hml, hr, hown, hts, hlocks, hA, hK3, hN, hX, hT, hC⟩ := id C0
  have hK : va_K D vwCl (kT cI cZ) s := hK3.sub [0, 1] rfl
  have hl : lv_has ls 5 [(0, .ref (a4 0)), (1, .int x1), (2, .int x2), (3, .ref ao)] := hl
  unfold f_L_symbol at h
  refine lv_aload_n hx hb dL_symbol_0 rfl (lv_at hl 3 rfl) ?_
  refine lv_iconst (v := 0) hx hb dL_symbol_1 rfl ?_
  refine lv_aload_n hx hb dL_symbol_2 rfl (lv_at hl 0 rfl) ?_
  refine lv_iload_n hx hb dL_symbol_3 rfl (lv_at hl 1 rfl) ?_
  refine lv_iload_n hx hb dL_symbol_4 rfl (lv_at hl 2 rfl) ?_
  obtain ⟨q1, hq1, h⟩ := ob h
  refine ml_i (ws' := wL4 a4 a2 a1 a3 a0 ao cI cZ cJ (q1.2, o)) (wr := wO ao cJ o) [0, 1, 2, 3, 4, 5, 6, 7, 8, 9, 10, 11, 12, 13, 14, 15, 16, 17, 18, 19, 20, 21, 22, 23, 24, 25, 26, 27, 28] [29] [1, 2, 3, 4, 5, 6, 7, 8, 9, 10, 11, 12, 13, 14, 15, 16, 17, 18, 19, 20, 21, 22, 23, 24, 25, 26, 27, 28, 29, 0] (vx_runV (As := [.int x1, .int x2]) (rest := [.int 0, .ref ao]) ⟨hx, hb, hml, hown, hts⟩ (c_X4_symbol l hlt D cI cZ sa a4 a2 a1 a3 a0 N x y t k b x1 x2 q1.1 q1.2 hq1 H.size) (cwV 2 hts gL_symbol_X4_symbol rfl rfl rfl (by decide +kernel) ⟨Nat.le_of_ble_eq_true rfl, Nat.le_of_ble_eq_true rfl⟩) (pXV [0, 1, 2, 3, 4, 5, 6, 7, 8, 9, 10, 11, 12, 13, 14, 15, 16, 17, 18, 19, 20, 21, 22, 23, 24, 25, 26, 27, 28] hP hD hS hA hK hN hX rfl rfl rfl rfl) rfl rfl hl.1 rfl (lv_room (Nat.le_of_ble_eq_true rfl)) dL_symbol_5 ⟨Nat.le_of_ble_eq_true rfl, Nat.le_of_ble_eq_true rfl⟩) hP hD hS hA rfl rfl rfl (by decide) rfl rfl (fun k9 hk9 ce q9 H locs hP hD hS hce hcv hcl => ?_) (fun r1 hr9 H locs hP hD hS => ?_)
  · rw [hk9, exL_inr] at h
    by_cases hk2 : k9 = 2
    · rw [if_pos hk2] at h
      subst hk2
      obtain ⟨rfl, rfl⟩ := so h
      refine cx_catch (E := exN 2) (name := exN 2) hown [] ⟨0, 10, 13, 24⟩ [] hT (fun z hz => by cases hz) (by decide) (by decide) (hts (.classLink RL 24 "java/lang/IndexOutOfBoundsException") (by decide +kernel)) (hX.cast 2) hce hcv hcl ?_
      refine lv_astore (lv' := [(4, .ref q9), (0, .ref (a4 0)), (1, .int x1), (2, .int x2), (3, .ref ao)]) hx hb dL_symbol_13 hl (by decide) rfl (fun ls hl => ?_)
      refine lv_iconst (v := 1) hx hb dL_symbol_15 rfl ?_
      exact lret_i C0 hP hD hS dL_symbol_16 (by decide) (by decide)
    rw [if_neg hk2] at h
    exact no h
  · rw [hr9, exL_inl] at h
    refine lv_i2l (v := Int32.toInt64 r1) hx hb dL_symbol_8 rfl ?_
    refine va_last (f := o) hx hb hK3 hP hD hS 29 2 rfl rfl (i := 0) (x := (Int32.toInt64 r1)) (by unfold vp_in; decide) dL_symbol_9 (fun H locs hP hD hS => ?_)
    obtain ⟨o1, eo1, h⟩ := bn h
    have hP : va_P D vwCl (wL4 a4 a2 a1 a3 a0 ao cI cZ cJ (q1.2, o1)) H := by rw [eo1]; exact hP
    have hD : va_D A (wL4 a4 a2 a1 a3 a0 ao cI cZ cJ (q1.2, o1)) := by rw [eo1]; exact hD
    refine lv_goto (tgt := 17) hx hb dL_symbol_10 (by decide) ?_
    refine lv_iconst (v := 0) hx hb dL_symbol_17 rfl ?_
    obtain ⟨rfl, rfl⟩ := so h
    exact lret_i C0 hP hD hS dL_symbol_18 (by decide) (by decide)

def f_L_measure (N : Nat) (x y t k b : St) (o : Nat → Int64) (x1 x2 : Int32) : Option (Int32 × SL) := (f_X4_measure N x y t k b x1 x2).bind (fun q1 => exL q1.1 (fun r1 => bnd (vp_updL o (Int32.toNatClampNeg 0) (Int32.toInt64 r1)) (fun o1 => some (0, (q1.2, o1)))) (fun k => if k = 2 then some (1, (q1.2, o)) else if k = 0 then some (2, (q1.2, o)) else none))
set_option maxHeartbeats 4000000 in
set_option maxRecDepth 100000 in
theorem c_L_measure (l : Launch) (hlt : l.stackTraces = false) (D : va_G) (cI cZ cJ : ClassId) (sa : Nat → Nat) (a4 a2 a1 a3 a0 : Nat → Nat) (ao : Nat) (N : Nat) (x y t k b : St) (o : Nat → Int64) (x1 x2 : Int32) : ML9 l yL_measure wsL_measure ({ frames := 8, cells := 2, slots := 12, locals := 125 } : Room) D cI cZ cJ sa (wL4 a4 a2 a1 a3 a0 ao cI cZ cJ) [.ref (a4 0), .int x1, .int x2, .ref ao] ((x, y, t, k, b), o) 2 12 (f_L_measure N x y t k b o x1 x2) := by
  refine ML9.of (cc := cL_measure) (maxL := 5) (ret := (some .int)) (hh := [(0, 10, 13, 24), (0, 10, 17, 13)]) (own := RL) (by decide) rfl rfl (Nat.le_of_ble_eq_true rfl) ?_
  intro r u1 h p e s m args below meth c A C0 H locs ls hP hD hS hl
  obtain ⟨hx, hb, hml, hr, hown, hts, hlocks, hA, hK3, hN, hX, hT, hC⟩ := id C0
  have hK : va_K D vwCl (kT cI cZ) s := hK3.sub [0, 1] rfl
  have hl : lv_has ls 5 [(0, .ref (a4 0)), (1, .int x1), (2, .int x2), (3, .ref ao)] := hl
  unfold f_L_measure at h
  refine lv_aload_n hx hb dL_measure_0 rfl (lv_at hl 3 rfl) ?_
  refine lv_iconst (v := 0) hx hb dL_measure_1 rfl ?_
  refine lv_aload_n hx hb dL_measure_2 rfl (lv_at hl 0 rfl) ?_
  refine lv_iload_n hx hb dL_measure_3 rfl (lv_at hl 1 rfl) ?_
  refine lv_iload_n hx hb dL_measure_4 rfl (lv_at hl 2 rfl) ?_
  obtain ⟨q1, hq1, h⟩ := ob h
  refine ml_i (ws' := wL4 a4 a2 a1 a3 a0 ao cI cZ cJ (q1.2, o)) (wr := wO ao cJ o) [0, 1, 2, 3, 4, 5, 6, 7, 8, 9, 10, 11, 12, 13, 14, 15, 16, 17, 18, 19, 20, 21, 22, 23, 24, 25, 26, 27, 28] [29] [1, 2, 3, 4, 5, 6, 7, 8, 9, 10, 11, 12, 13, 14, 15, 16, 17, 18, 19, 20, 21, 22, 23, 24, 25, 26, 27, 28, 29, 0] (vx_runV (As := [.int x1, .int x2]) (rest := [.int 0, .ref ao]) ⟨hx, hb, hml, hown, hts⟩ (c_X4_measure l hlt D cI cZ sa a4 a2 a1 a3 a0 N x y t k b x1 x2 q1.1 q1.2 hq1 H.size) (cwV 2 hts gL_measure_X4_measure rfl rfl rfl (by decide +kernel) ⟨Nat.le_of_ble_eq_true rfl, Nat.le_of_ble_eq_true rfl⟩) (pXV [0, 1, 2, 3, 4, 5, 6, 7, 8, 9, 10, 11, 12, 13, 14, 15, 16, 17, 18, 19, 20, 21, 22, 23, 24, 25, 26, 27, 28] hP hD hS hA hK hN hX rfl rfl rfl rfl) rfl rfl hl.1 rfl (lv_room (Nat.le_of_ble_eq_true rfl)) dL_measure_5 ⟨Nat.le_of_ble_eq_true rfl, Nat.le_of_ble_eq_true rfl⟩) hP hD hS hA rfl rfl rfl (by decide) rfl rfl (fun k9 hk9 ce q9 H locs hP hD hS hce hcv hcl => ?_) (fun r1 hr9 H locs hP hD hS => ?_)
  · rw [hk9, exL_inr] at h
    by_cases hk2 : k9 = 2
    · rw [if_pos hk2] at h
      subst hk2
      obtain ⟨rfl, rfl⟩ := so h
      refine cx_catch (E := exN 2) (name := exN 2) hown [] ⟨0, 10, 13, 24⟩ [⟨0, 10, 17, 13⟩] hT (fun z hz => by cases hz) (by decide) (by decide) (hts (.classLink RL 24 "java/lang/IndexOutOfBoundsException") (by decide +kernel)) (hX.cast 2) hce hcv hcl ?_
      refine lv_astore (lv' := [(4, .ref q9), (0, .ref (a4 0)), (1, .int x1), (2, .int x2), (3, .ref ao)]) hx hb dL_measure_13 hl (by decide) rfl (fun ls hl => ?_)
      refine lv_iconst (v := 1) hx hb dL_measure_15 rfl ?_
      exact lret_i C0 hP hD hS dL_measure_16 (by decide) (by decide)
    rw [if_neg hk2] at h
    by_cases hk0 : k9 = 0
    · rw [if_pos hk0] at h
      subst hk0
      obtain ⟨rfl, rfl⟩ := so h
      refine cx_catch (E := exN 0) (name := exN 0) hown [⟨0, 10, 13, 24⟩] ⟨0, 10, 17, 13⟩ [] hT (fun z hz => ?_) (by decide) (by decide) (hts (.classLink RL 13 "java/lang/IllegalArgumentException") (by decide +kernel)) (hX.cast 0) hce hcv hcl ?_
      · simp only [List.mem_cons, List.not_mem_nil, or_false] at hz
        rcases hz with rfl
        · exact Or.inr ⟨by decide, "java/lang/IndexOutOfBoundsException", hts (.classLink RL 24 "java/lang/IndexOutOfBoundsException") (by decide +kernel), hC ("java/lang/IllegalArgumentException", "java/lang/IndexOutOfBoundsException") (by decide)⟩
      refine lv_astore (lv' := [(4, .ref q9), (0, .ref (a4 0)), (1, .int x1), (2, .int x2), (3, .ref ao)]) hx hb dL_measure_17 hl (by decide) rfl (fun ls hl => ?_)
      refine lv_iconst (v := 2) hx hb dL_measure_19 rfl ?_
      exact lret_i C0 hP hD hS dL_measure_20 (by decide) (by decide)
    rw [if_neg hk0] at h
    exact no h
  · rw [hr9, exL_inl] at h
    refine lv_i2l (v := Int32.toInt64 r1) hx hb dL_measure_8 rfl ?_
    refine va_last (f := o) hx hb hK3 hP hD hS 29 2 rfl rfl (i := 0) (x := (Int32.toInt64 r1)) (by unfold vp_in; decide) dL_measure_9 (fun H locs hP hD hS => ?_)
    obtain ⟨o1, eo1, h⟩ := bn h
    have hP : va_P D vwCl (wL4 a4 a2 a1 a3 a0 ao cI cZ cJ (q1.2, o1)) H := by rw [eo1]; exact hP
    have hD : va_D A (wL4 a4 a2 a1 a3 a0 ao cI cZ cJ (q1.2, o1)) := by rw [eo1]; exact hD
    refine lv_goto (tgt := 21) hx hb dL_measure_10 (by decide) ?_
    refine lv_iconst (v := 0) hx hb dL_measure_21 rfl ?_
    obtain ⟨rfl, rfl⟩ := so h
    exact lret_i C0 hP hD hS dL_measure_22 (by decide) (by decide)

def f_L_same (N : Nat) (x y t k b : St) (o : Nat → Int64) (x1 x2 : Int32) : Option (Int32 × SL) := (f_X4_same N x y t k b x1 x2).bind (fun q1 => exL q1.1 (fun r1 => if r1 = 0 then bnd (vp_updL o (Int32.toNatClampNeg 0) 0) (fun o1 => some (0, (q1.2, o1))) else bnd (vp_updL o (Int32.toNatClampNeg 0) 1) (fun o1 => some (0, (q1.2, o1)))) (fun k => if k = 2 then some (1, (q1.2, o)) else none))
set_option maxHeartbeats 4000000 in
set_option maxRecDepth 100000 in
theorem c_L_same (l : Launch) (hlt : l.stackTraces = false) (D : va_G) (cI cZ cJ : ClassId) (sa : Nat → Nat) (a4 a2 a1 a3 a0 : Nat → Nat) (ao : Nat) (N : Nat) (x y t k b : St) (o : Nat → Int64) (x1 x2 : Int32) : ML9 l yL_same wsL_same ({ frames := 8, cells := 2, slots := 12, locals := 125 } : Room) D cI cZ cJ sa (wL4 a4 a2 a1 a3 a0 ao cI cZ cJ) [.ref (a4 0), .int x1, .int x2, .ref ao] ((x, y, t, k, b), o) 2 12 (f_L_same N x y t k b o x1 x2) := by
  refine ML9.of (cc := cL_same) (maxL := 5) (ret := (some .int)) (hh := [(0, 17, 20, 24)]) (own := RL) (by decide) rfl rfl (Nat.le_of_ble_eq_true rfl) ?_
  intro r u1 h p e s m args below meth c A C0 H locs ls hP hD hS hl
  obtain ⟨hx, hb, hml, hr, hown, hts, hlocks, hA, hK3, hN, hX, hT, hC⟩ := id C0
  have hK : va_K D vwCl (kT cI cZ) s := hK3.sub [0, 1] rfl
  have hl : lv_has ls 5 [(0, .ref (a4 0)), (1, .int x1), (2, .int x2), (3, .ref ao)] := hl
  unfold f_L_same at h
  refine lv_aload_n hx hb dL_same_0 rfl (lv_at hl 3 rfl) ?_
  refine lv_iconst (v := 0) hx hb dL_same_1 rfl ?_
  refine lv_aload_n hx hb dL_same_2 rfl (lv_at hl 0 rfl) ?_
  refine lv_iload_n hx hb dL_same_3 rfl (lv_at hl 1 rfl) ?_
  refine lv_iload_n hx hb dL_same_4 rfl (lv_at hl 2 rfl) ?_
  obtain ⟨q1, hq1, h⟩ := ob h
  refine ml_i (ws' := wL4 a4 a2 a1 a3 a0 ao cI cZ cJ (q1.2, o)) (wr := wO ao cJ o) [0, 1, 2, 3, 4, 5, 6, 7, 8, 9, 10, 11, 12, 13, 14, 15, 16, 17, 18, 19, 20, 21, 22, 23, 24, 25, 26, 27, 28] [29] [1, 2, 3, 4, 5, 6, 7, 8, 9, 10, 11, 12, 13, 14, 15, 16, 17, 18, 19, 20, 21, 22, 23, 24, 25, 26, 27, 28, 29, 0] (vx_runV (As := [.int x1, .int x2]) (rest := [.int 0, .ref ao]) ⟨hx, hb, hml, hown, hts⟩ (c_X4_same l hlt D cI cZ sa a4 a2 a1 a3 a0 N x y t k b x1 x2 q1.1 q1.2 hq1 H.size) (cwV 2 hts gL_same_X4_same rfl rfl rfl (by decide +kernel) ⟨Nat.le_of_ble_eq_true rfl, Nat.le_of_ble_eq_true rfl⟩) (pXV [0, 1, 2, 3, 4, 5, 6, 7, 8, 9, 10, 11, 12, 13, 14, 15, 16, 17, 18, 19, 20, 21, 22, 23, 24, 25, 26, 27, 28] hP hD hS hA hK hN hX rfl rfl rfl rfl) rfl rfl hl.1 rfl (lv_room (Nat.le_of_ble_eq_true rfl)) dL_same_5 ⟨Nat.le_of_ble_eq_true rfl, Nat.le_of_ble_eq_true rfl⟩) hP hD hS hA rfl rfl rfl (by decide) rfl rfl (fun k9 hk9 ce q9 H locs hP hD hS hce hcv hcl => ?_) (fun r1 hr9 H locs hP hD hS => ?_)
  · rw [hk9, exL_inr] at h
    by_cases hk2 : k9 = 2
    · rw [if_pos hk2] at h
      subst hk2
      obtain ⟨rfl, rfl⟩ := so h
      refine cx_catch (E := exN 2) (name := exN 2) hown [] ⟨0, 17, 20, 24⟩ [] hT (fun z hz => by cases hz) (by decide) (by decide) (hts (.classLink RL 24 "java/lang/IndexOutOfBoundsException") (by decide +kernel)) (hX.cast 2) hce hcv hcl ?_
      refine lv_astore (lv' := [(4, .ref q9), (0, .ref (a4 0)), (1, .int x1), (2, .int x2), (3, .ref ao)]) hx hb dL_same_20 hl (by decide) rfl (fun ls hl => ?_)
      refine lv_iconst (v := 1) hx hb dL_same_22 rfl ?_
      exact lret_i C0 hP hD hS dL_same_23 (by decide) (by decide)
    rw [if_neg hk2] at h
    exact no h
  · rw [hr9, exL_inl] at h
    refine lv_if_eq (tgt := 15) hx hb dL_same_8 (by decide) (fun hc1 => ?_) (fun hc1 => ?_)
    · rw [if_pos hc1] at h
      refine lv_lconst (v := 0) hx hb dL_same_15 rfl ?_
      refine va_last (f := o) hx hb hK3 hP hD hS 29 2 rfl rfl (i := 0) (x := 0) (by unfold vp_in; decide) dL_same_16 (fun H locs hP hD hS => ?_)
      obtain ⟨o1, eo1, h⟩ := bn h
      have hP : va_P D vwCl (wL4 a4 a2 a1 a3 a0 ao cI cZ cJ (q1.2, o1)) H := by rw [eo1]; exact hP
      have hD : va_D A (wL4 a4 a2 a1 a3 a0 ao cI cZ cJ (q1.2, o1)) := by rw [eo1]; exact hD
      refine lv_goto (tgt := 24) hx hb dL_same_17 (by decide) ?_
      refine lv_iconst (v := 0) hx hb dL_same_24 rfl ?_
      obtain ⟨rfl, rfl⟩ := so h
      exact lret_i C0 hP hD hS dL_same_25 (by decide) (by decide)
    · rw [if_neg hc1] at h
      refine lv_lconst (v := 1) hx hb dL_same_11 rfl ?_
      refine lv_goto (tgt := 16) hx hb dL_same_12 (by decide) ?_
      refine va_last (f := o) hx hb hK3 hP hD hS 29 2 rfl rfl (i := 0) (x := 1) (by unfold vp_in; decide) dL_same_16 (fun H locs hP hD hS => ?_)
      obtain ⟨o1, eo1, h⟩ := bn h
      have hP : va_P D vwCl (wL4 a4 a2 a1 a3 a0 ao cI cZ cJ (q1.2, o1)) H := by rw [eo1]; exact hP
      have hD : va_D A (wL4 a4 a2 a1 a3 a0 ao cI cZ cJ (q1.2, o1)) := by rw [eo1]; exact hD
      refine lv_goto (tgt := 24) hx hb dL_same_17 (by decide) ?_
      refine lv_iconst (v := 0) hx hb dL_same_24 rfl ?_
      obtain ⟨rfl, rfl⟩ := so h
      exact lret_i C0 hP hD hS dL_same_25 (by decide) (by decide)

def f_L_sameType (N : Nat) (x y t k b : St) (o : Nat → Int64) (x1 x2 : Int32) : Option (Int32 × SL) := (f_X4_sameType N x y t k b x1 x2).bind (fun q1 => exL q1.1 (fun r1 => if r1 = 0 then bnd (vp_updL o (Int32.toNatClampNeg 0) 0) (fun o1 => some (0, (q1.2, o1))) else bnd (vp_updL o (Int32.toNatClampNeg 0) 1) (fun o1 => some (0, (q1.2, o1)))) (fun k => if k = 2 then some (1, (q1.2, o)) else none))
set_option maxHeartbeats 4000000 in
set_option maxRecDepth 100000 in
theorem c_L_sameType (l : Launch) (hlt : l.stackTraces = false) (D : va_G) (cI cZ cJ : ClassId) (sa : Nat → Nat) (a4 a2 a1 a3 a0 : Nat → Nat) (ao : Nat) (N : Nat) (x y t k b : St) (o : Nat → Int64) (x1 x2 : Int32) : ML9 l yL_sameType wsL_sameType ({ frames := 8, cells := 2, slots := 12, locals := 126 } : Room) D cI cZ cJ sa (wL4 a4 a2 a1 a3 a0 ao cI cZ cJ) [.ref (a4 0), .int x1, .int x2, .ref ao] ((x, y, t, k, b), o) 2 12 (f_L_sameType N x y t k b o x1 x2) := by
  refine ML9.of (cc := cL_sameType) (maxL := 5) (ret := (some .int)) (hh := [(0, 17, 20, 24)]) (own := RL) (by decide) rfl rfl (Nat.le_of_ble_eq_true rfl) ?_
  intro r u1 h p e s m args below meth c A C0 H locs ls hP hD hS hl
  obtain ⟨hx, hb, hml, hr, hown, hts, hlocks, hA, hK3, hN, hX, hT, hC⟩ := id C0
  have hK : va_K D vwCl (kT cI cZ) s := hK3.sub [0, 1] rfl
  have hl : lv_has ls 5 [(0, .ref (a4 0)), (1, .int x1), (2, .int x2), (3, .ref ao)] := hl
  unfold f_L_sameType at h
  refine lv_aload_n hx hb dL_sameType_0 rfl (lv_at hl 3 rfl) ?_
  refine lv_iconst (v := 0) hx hb dL_sameType_1 rfl ?_
  refine lv_aload_n hx hb dL_sameType_2 rfl (lv_at hl 0 rfl) ?_
  refine lv_iload_n hx hb dL_sameType_3 rfl (lv_at hl 1 rfl) ?_
  refine lv_iload_n hx hb dL_sameType_4 rfl (lv_at hl 2 rfl) ?_
  obtain ⟨q1, hq1, h⟩ := ob h
  refine ml_i (ws' := wL4 a4 a2 a1 a3 a0 ao cI cZ cJ (q1.2, o)) (wr := wO ao cJ o) [0, 1, 2, 3, 4, 5, 6, 7, 8, 9, 10, 11, 12, 13, 14, 15, 16, 17, 18, 19, 20, 21, 22, 23, 24, 25, 26, 27, 28] [29] [1, 2, 3, 4, 5, 6, 7, 8, 9, 10, 11, 12, 13, 14, 15, 16, 17, 18, 19, 20, 21, 22, 23, 24, 25, 26, 27, 28, 29, 0] (vx_runV (As := [.int x1, .int x2]) (rest := [.int 0, .ref ao]) ⟨hx, hb, hml, hown, hts⟩ (c_X4_sameType l hlt D cI cZ sa a4 a2 a1 a3 a0 N x y t k b x1 x2 q1.1 q1.2 hq1 H.size) (cwV 2 hts gL_sameType_X4_sameType rfl rfl rfl (by decide +kernel) ⟨Nat.le_of_ble_eq_true rfl, Nat.le_of_ble_eq_true rfl⟩) (pXV [0, 1, 2, 3, 4, 5, 6, 7, 8, 9, 10, 11, 12, 13, 14, 15, 16, 17, 18, 19, 20, 21, 22, 23, 24, 25, 26, 27, 28] hP hD hS hA hK hN hX rfl rfl rfl rfl) rfl rfl hl.1 rfl (lv_room (Nat.le_of_ble_eq_true rfl)) dL_sameType_5 ⟨Nat.le_of_ble_eq_true rfl, Nat.le_of_ble_eq_true rfl⟩) hP hD hS hA rfl rfl rfl (by decide) rfl rfl (fun k9 hk9 ce q9 H locs hP hD hS hce hcv hcl => ?_) (fun r1 hr9 H locs hP hD hS => ?_)
  · rw [hk9, exL_inr] at h
    by_cases hk2 : k9 = 2
    · rw [if_pos hk2] at h
      subst hk2
      obtain ⟨rfl, rfl⟩ := so h
      refine cx_catch (E := exN 2) (name := exN 2) hown [] ⟨0, 17, 20, 24⟩ [] hT (fun z hz => by cases hz) (by decide) (by decide) (hts (.classLink RL 24 "java/lang/IndexOutOfBoundsException") (by decide +kernel)) (hX.cast 2) hce hcv hcl ?_
      refine lv_astore (lv' := [(4, .ref q9), (0, .ref (a4 0)), (1, .int x1), (2, .int x2), (3, .ref ao)]) hx hb dL_sameType_20 hl (by decide) rfl (fun ls hl => ?_)
      refine lv_iconst (v := 1) hx hb dL_sameType_22 rfl ?_
      exact lret_i C0 hP hD hS dL_sameType_23 (by decide) (by decide)
    rw [if_neg hk2] at h
    exact no h
  · rw [hr9, exL_inl] at h
    refine lv_if_eq (tgt := 15) hx hb dL_sameType_8 (by decide) (fun hc1 => ?_) (fun hc1 => ?_)
    · rw [if_pos hc1] at h
      refine lv_lconst (v := 0) hx hb dL_sameType_15 rfl ?_
      refine va_last (f := o) hx hb hK3 hP hD hS 29 2 rfl rfl (i := 0) (x := 0) (by unfold vp_in; decide) dL_sameType_16 (fun H locs hP hD hS => ?_)
      obtain ⟨o1, eo1, h⟩ := bn h
      have hP : va_P D vwCl (wL4 a4 a2 a1 a3 a0 ao cI cZ cJ (q1.2, o1)) H := by rw [eo1]; exact hP
      have hD : va_D A (wL4 a4 a2 a1 a3 a0 ao cI cZ cJ (q1.2, o1)) := by rw [eo1]; exact hD
      refine lv_goto (tgt := 24) hx hb dL_sameType_17 (by decide) ?_
      refine lv_iconst (v := 0) hx hb dL_sameType_24 rfl ?_
      obtain ⟨rfl, rfl⟩ := so h
      exact lret_i C0 hP hD hS dL_sameType_25 (by decide) (by decide)
    · rw [if_neg hc1] at h
      refine lv_lconst (v := 1) hx hb dL_sameType_11 rfl ?_
      refine lv_goto (tgt := 16) hx hb dL_sameType_12 (by decide) ?_
      refine va_last (f := o) hx hb hK3 hP hD hS 29 2 rfl rfl (i := 0) (x := 1) (by unfold vp_in; decide) dL_sameType_16 (fun H locs hP hD hS => ?_)
      obtain ⟨o1, eo1, h⟩ := bn h
      have hP : va_P D vwCl (wL4 a4 a2 a1 a3 a0 ao cI cZ cJ (q1.2, o1)) H := by rw [eo1]; exact hP
      have hD : va_D A (wL4 a4 a2 a1 a3 a0 ao cI cZ cJ (q1.2, o1)) := by rw [eo1]; exact hD
      refine lv_goto (tgt := 24) hx hb dL_sameType_17 (by decide) ?_
      refine lv_iconst (v := 0) hx hb dL_sameType_24 rfl ?_
      obtain ⟨rfl, rfl⟩ := so h
      exact lret_i C0 hP hD hS dL_sameType_25 (by decide) (by decide)

def f_L_occurs (N : Nat) (x y t k b : St) (o : Nat → Int64) (x1 x2 : Int32) : Option (Int32 × SL) := (f_X4_occurs N x y t k b x1 x2).bind (fun q1 => exL q1.1 (fun r1 => if r1 = 0 then bnd (vp_updL o (Int32.toNatClampNeg 0) 0) (fun o1 => some (0, (q1.2, o1))) else bnd (vp_updL o (Int32.toNatClampNeg 0) 1) (fun o1 => some (0, (q1.2, o1)))) (fun k => if k = 2 then some (1, (q1.2, o)) else if k = 0 then some (2, (q1.2, o)) else none))
set_option maxHeartbeats 4000000 in
set_option maxRecDepth 100000 in
theorem c_L_occurs (l : Launch) (hlt : l.stackTraces = false) (D : va_G) (cI cZ cJ : ClassId) (sa : Nat → Nat) (a4 a2 a1 a3 a0 : Nat → Nat) (ao : Nat) (N : Nat) (x y t k b : St) (o : Nat → Int64) (x1 x2 : Int32) : ML9 l yL_occurs wsL_occurs ({ frames := 8, cells := 3, slots := 18, locals := 130 } : Room) D cI cZ cJ sa (wL4 a4 a2 a1 a3 a0 ao cI cZ cJ) [.ref (a4 0), .int x1, .int x2, .ref ao] ((x, y, t, k, b), o) 3 18 (f_L_occurs N x y t k b o x1 x2) := by
  refine ML9.of (cc := cL_occurs) (maxL := 5) (ret := (some .int)) (hh := [(0, 17, 20, 24), (0, 17, 24, 13)]) (own := RL) (by decide) rfl rfl (Nat.le_of_ble_eq_true rfl) ?_
  intro r u1 h p e s m args below meth c A C0 H locs ls hP hD hS hl
  obtain ⟨hx, hb, hml, hr, hown, hts, hlocks, hA, hK3, hN, hX, hT, hC⟩ := id C0
  have hK : va_K D vwCl (kT cI cZ) s := hK3.sub [0, 1] rfl
  have hl : lv_has ls 5 [(0, .ref (a4 0)), (1, .int x1), (2, .int x2), (3, .ref ao)] := hl
  unfold f_L_occurs at h
  refine lv_aload_n hx hb dL_occurs_0 rfl (lv_at hl 3 rfl) ?_
  refine lv_iconst (v := 0) hx hb dL_occurs_1 rfl ?_
  refine lv_aload_n hx hb dL_occurs_2 rfl (lv_at hl 0 rfl) ?_
  refine lv_iload_n hx hb dL_occurs_3 rfl (lv_at hl 1 rfl) ?_
  refine lv_iload_n hx hb dL_occurs_4 rfl (lv_at hl 2 rfl) ?_
  obtain ⟨q1, hq1, h⟩ := ob h
  refine ml_i (ws' := wL4 a4 a2 a1 a3 a0 ao cI cZ cJ (q1.2, o)) (wr := wO ao cJ o) [0, 1, 2, 3, 4, 5, 6, 7, 8, 9, 10, 11, 12, 13, 14, 15, 16, 17, 18, 19, 20, 21, 22, 23, 24, 25, 26, 27, 28] [29] [1, 2, 3, 4, 5, 6, 7, 8, 9, 10, 11, 12, 13, 14, 15, 16, 17, 18, 19, 20, 21, 22, 23, 24, 25, 26, 27, 28, 29, 0] (vx_runV (As := [.int x1, .int x2]) (rest := [.int 0, .ref ao]) ⟨hx, hb, hml, hown, hts⟩ (c_X4_occurs l hlt D cI cZ sa a4 a2 a1 a3 a0 N x y t k b x1 x2 q1.1 q1.2 hq1 H.size) (cwV 2 hts gL_occurs_X4_occurs rfl rfl rfl (by decide +kernel) ⟨Nat.le_of_ble_eq_true rfl, Nat.le_of_ble_eq_true rfl⟩) (pXV [0, 1, 2, 3, 4, 5, 6, 7, 8, 9, 10, 11, 12, 13, 14, 15, 16, 17, 18, 19, 20, 21, 22, 23, 24, 25, 26, 27, 28] hP hD hS hA hK hN hX rfl rfl rfl rfl) rfl rfl hl.1 rfl (lv_room (Nat.le_of_ble_eq_true rfl)) dL_occurs_5 ⟨Nat.le_of_ble_eq_true rfl, Nat.le_of_ble_eq_true rfl⟩) hP hD hS hA rfl rfl rfl (by decide) rfl rfl (fun k9 hk9 ce q9 H locs hP hD hS hce hcv hcl => ?_) (fun r1 hr9 H locs hP hD hS => ?_)
  · rw [hk9, exL_inr] at h
    by_cases hk2 : k9 = 2
    · rw [if_pos hk2] at h
      subst hk2
      obtain ⟨rfl, rfl⟩ := so h
      refine cx_catch (E := exN 2) (name := exN 2) hown [] ⟨0, 17, 20, 24⟩ [⟨0, 17, 24, 13⟩] hT (fun z hz => by cases hz) (by decide) (by decide) (hts (.classLink RL 24 "java/lang/IndexOutOfBoundsException") (by decide +kernel)) (hX.cast 2) hce hcv hcl ?_
      refine lv_astore (lv' := [(4, .ref q9), (0, .ref (a4 0)), (1, .int x1), (2, .int x2), (3, .ref ao)]) hx hb dL_occurs_20 hl (by decide) rfl (fun ls hl => ?_)
      refine lv_iconst (v := 1) hx hb dL_occurs_22 rfl ?_
      exact lret_i C0 hP hD hS dL_occurs_23 (by decide) (by decide)
    rw [if_neg hk2] at h
    by_cases hk0 : k9 = 0
    · rw [if_pos hk0] at h
      subst hk0
      obtain ⟨rfl, rfl⟩ := so h
      refine cx_catch (E := exN 0) (name := exN 0) hown [⟨0, 17, 20, 24⟩] ⟨0, 17, 24, 13⟩ [] hT (fun z hz => ?_) (by decide) (by decide) (hts (.classLink RL 13 "java/lang/IllegalArgumentException") (by decide +kernel)) (hX.cast 0) hce hcv hcl ?_
      · simp only [List.mem_cons, List.not_mem_nil, or_false] at hz
        rcases hz with rfl
        · exact Or.inr ⟨by decide, "java/lang/IndexOutOfBoundsException", hts (.classLink RL 24 "java/lang/IndexOutOfBoundsException") (by decide +kernel), hC ("java/lang/IllegalArgumentException", "java/lang/IndexOutOfBoundsException") (by decide)⟩
      refine lv_astore (lv' := [(4, .ref q9), (0, .ref (a4 0)), (1, .int x1), (2, .int x2), (3, .ref ao)]) hx hb dL_occurs_24 hl (by decide) rfl (fun ls hl => ?_)
      refine lv_iconst (v := 2) hx hb dL_occurs_26 rfl ?_
      exact lret_i C0 hP hD hS dL_occurs_27 (by decide) (by decide)
    rw [if_neg hk0] at h
    exact no h
  · rw [hr9, exL_inl] at h
    refine lv_if_eq (tgt := 15) hx hb dL_occurs_8 (by decide) (fun hc1 => ?_) (fun hc1 => ?_)
    · rw [if_pos hc1] at h
      refine lv_lconst (v := 0) hx hb dL_occurs_15 rfl ?_
      refine va_last (f := o) hx hb hK3 hP hD hS 29 2 rfl rfl (i := 0) (x := 0) (by unfold vp_in; decide) dL_occurs_16 (fun H locs hP hD hS => ?_)
      obtain ⟨o1, eo1, h⟩ := bn h
      have hP : va_P D vwCl (wL4 a4 a2 a1 a3 a0 ao cI cZ cJ (q1.2, o1)) H := by rw [eo1]; exact hP
      have hD : va_D A (wL4 a4 a2 a1 a3 a0 ao cI cZ cJ (q1.2, o1)) := by rw [eo1]; exact hD
      refine lv_goto (tgt := 28) hx hb dL_occurs_17 (by decide) ?_
      refine lv_iconst (v := 0) hx hb dL_occurs_28 rfl ?_
      obtain ⟨rfl, rfl⟩ := so h
      exact lret_i C0 hP hD hS dL_occurs_29 (by decide) (by decide)
    · rw [if_neg hc1] at h
      refine lv_lconst (v := 1) hx hb dL_occurs_11 rfl ?_
      refine lv_goto (tgt := 16) hx hb dL_occurs_12 (by decide) ?_
      refine va_last (f := o) hx hb hK3 hP hD hS 29 2 rfl rfl (i := 0) (x := 1) (by unfold vp_in; decide) dL_occurs_16 (fun H locs hP hD hS => ?_)
      obtain ⟨o1, eo1, h⟩ := bn h
      have hP : va_P D vwCl (wL4 a4 a2 a1 a3 a0 ao cI cZ cJ (q1.2, o1)) H := by rw [eo1]; exact hP
      have hD : va_D A (wL4 a4 a2 a1 a3 a0 ao cI cZ cJ (q1.2, o1)) := by rw [eo1]; exact hD
      refine lv_goto (tgt := 28) hx hb dL_occurs_17 (by decide) ?_
      refine lv_iconst (v := 0) hx hb dL_occurs_28 rfl ?_
      obtain ⟨rfl, rfl⟩ := so h
      exact lret_i C0 hP hD hS dL_occurs_29 (by decide) (by decide)

def f_L_match (N : Nat) (x y t k b : St) (o : Nat → Int64) (x1 x2 : Int32) : Option (Int32 × SL) := (f_X4_match N x y t k b x1 x2).bind (fun q1 => exL q1.1 (fun r1 => bnd (vp_updL o (Int32.toNatClampNeg 0) (Int32.toInt64 r1)) (fun o1 => some (0, (q1.2, o1)))) (fun k => if k = 2 then some (1, (q1.2, o)) else none))
set_option maxHeartbeats 4000000 in
set_option maxRecDepth 100000 in
theorem c_L_match (l : Launch) (hlt : l.stackTraces = false) (D : va_G) (cI cZ cJ : ClassId) (sa : Nat → Nat) (a4 a2 a1 a3 a0 : Nat → Nat) (ao : Nat) (N : Nat) (x y t k b : St) (o : Nat → Int64) (x1 x2 : Int32) : ML9 l yL_match wsL_match ({ frames := 132, cells := 2, slots := 12, locals := 5145 } : Room) D cI cZ cJ sa (wL4 a4 a2 a1 a3 a0 ao cI cZ cJ) [.ref (a4 0), .int x1, .int x2, .ref ao] ((x, y, t, k, b), o) 2 12 (f_L_match N x y t k b o x1 x2) := by
  refine ML9.of (cc := cL_match) (maxL := 5) (ret := (some .int)) (hh := [(0, 10, 13, 24)]) (own := RL) (by decide) rfl rfl (Nat.le_of_ble_eq_true rfl) ?_
  intro r u1 h p e s m args below meth c A C0 H locs ls hP hD hS hl
  obtain ⟨hx, hb, hml, hr, hown, hts, hlocks, hA, hK3, hN, hX, hT, hC⟩ := id C0
  have hK : va_K D vwCl (kT cI cZ) s := hK3.sub [0, 1] rfl
  have hl : lv_has ls 5 [(0, .ref (a4 0)), (1, .int x1), (2, .int x2), (3, .ref ao)] := hl
  unfold f_L_match at h
  refine lv_aload_n hx hb dL_match_0 rfl (lv_at hl 3 rfl) ?_
  refine lv_iconst (v := 0) hx hb dL_match_1 rfl ?_
  refine lv_aload_n hx hb dL_match_2 rfl (lv_at hl 0 rfl) ?_
  refine lv_iload_n hx hb dL_match_3 rfl (lv_at hl 1 rfl) ?_
  refine lv_iload_n hx hb dL_match_4 rfl (lv_at hl 2 rfl) ?_
  obtain ⟨q1, hq1, h⟩ := ob h
  refine ml_i (ws' := wL4 a4 a2 a1 a3 a0 ao cI cZ cJ (q1.2, o)) (wr := wO ao cJ o) [0, 1, 2, 3, 4, 5, 6, 7, 8, 9, 10, 11, 12, 13, 14, 15, 16, 17, 18, 19, 20, 21, 22, 23, 24, 25, 26, 27, 28] [29] [1, 2, 3, 4, 5, 6, 7, 8, 9, 10, 11, 12, 13, 14, 15, 16, 17, 18, 19, 20, 21, 22, 23, 24, 25, 26, 27, 28, 29, 0] (vx_runV (As := [.int x1, .int x2]) (rest := [.int 0, .ref ao]) ⟨hx, hb, hml, hown, hts⟩ (c_X4_match l hlt D cI cZ sa a4 a2 a1 a3 a0 N x y t k b x1 x2 q1.1 q1.2 hq1 H.size) (cwV 2 hts gL_match_X4_match rfl rfl rfl (by decide +kernel) ⟨Nat.le_of_ble_eq_true rfl, Nat.le_of_ble_eq_true rfl⟩) (pXV [0, 1, 2, 3, 4, 5, 6, 7, 8, 9, 10, 11, 12, 13, 14, 15, 16, 17, 18, 19, 20, 21, 22, 23, 24, 25, 26, 27, 28] hP hD hS hA hK hN hX rfl rfl rfl rfl) rfl rfl hl.1 rfl (lv_room (Nat.le_of_ble_eq_true rfl)) dL_match_5 ⟨Nat.le_of_ble_eq_true rfl, Nat.le_of_ble_eq_true rfl⟩) hP hD hS hA rfl rfl rfl (by decide) rfl rfl (fun k9 hk9 ce q9 H locs hP hD hS hce hcv hcl => ?_) (fun r1 hr9 H locs hP hD hS => ?_)
  · rw [hk9, exL_inr] at h
    by_cases hk2 : k9 = 2
    · rw [if_pos hk2] at h
      subst hk2
      obtain ⟨rfl, rfl⟩ := so h
      refine cx_catch (E := exN 2) (name := exN 2) hown [] ⟨0, 10, 13, 24⟩ [] hT (fun z hz => by cases hz) (by decide) (by decide) (hts (.classLink RL 24 "java/lang/IndexOutOfBoundsException") (by decide +kernel)) (hX.cast 2) hce hcv hcl ?_
      refine lv_astore (lv' := [(4, .ref q9), (0, .ref (a4 0)), (1, .int x1), (2, .int x2), (3, .ref ao)]) hx hb dL_match_13 hl (by decide) rfl (fun ls hl => ?_)
      refine lv_iconst (v := 1) hx hb dL_match_15 rfl ?_
      exact lret_i C0 hP hD hS dL_match_16 (by decide) (by decide)
    rw [if_neg hk2] at h
    exact no h
  · rw [hr9, exL_inl] at h
    refine lv_i2l (v := Int32.toInt64 r1) hx hb dL_match_8 rfl ?_
    refine va_last (f := o) hx hb hK3 hP hD hS 29 2 rfl rfl (i := 0) (x := (Int32.toInt64 r1)) (by unfold vp_in; decide) dL_match_9 (fun H locs hP hD hS => ?_)
    obtain ⟨o1, eo1, h⟩ := bn h
    have hP : va_P D vwCl (wL4 a4 a2 a1 a3 a0 ao cI cZ cJ (q1.2, o1)) H := by rw [eo1]; exact hP
    have hD : va_D A (wL4 a4 a2 a1 a3 a0 ao cI cZ cJ (q1.2, o1)) := by rw [eo1]; exact hD
    refine lv_goto (tgt := 17) hx hb dL_match_10 (by decide) ?_
    refine lv_iconst (v := 0) hx hb dL_match_17 rfl ?_
    obtain ⟨rfl, rfl⟩ := so h
    exact lret_i C0 hP hD hS dL_match_18 (by decide) (by decide)

def f_L_matched (N : Nat) (x y t k b : St) (o : Nat → Int64) (x1 : Int32) : Option (Int32 × SL) := (f_X4_matched N x y t k b x1).bind (fun q1 => exL q1.1 (fun r1 => bnd (vp_updL o (Int32.toNatClampNeg 0) (Int32.toInt64 r1)) (fun o1 => some (0, (q1.2, o1)))) (fun k => if k = 2 then some (1, (q1.2, o)) else if k = 1 then some (2, (q1.2, o)) else none))
set_option maxHeartbeats 4000000 in
set_option maxRecDepth 100000 in
theorem c_L_matched (l : Launch) (hlt : l.stackTraces = false) (D : va_G) (cI cZ cJ : ClassId) (sa : Nat → Nat) (a4 a2 a1 a3 a0 : Nat → Nat) (ao : Nat) (N : Nat) (x y t k b : St) (o : Nat → Int64) (x1 : Int32) : ML9 l yL_matched wsL_matched ({ frames := 8, cells := 1, slots := 6, locals := 128 } : Room) D cI cZ cJ sa (wL4 a4 a2 a1 a3 a0 ao cI cZ cJ) [.ref (a4 0), .int x1, .ref ao] ((x, y, t, k, b), o) 1 6 (f_L_matched N x y t k b o x1) := by
  refine ML9.of (cc := cL_matched) (maxL := 4) (ret := (some .int)) (hh := [(0, 9, 12, 24), (0, 9, 15, 15)]) (own := RL) (by decide) rfl rfl (Nat.le_of_ble_eq_true rfl) ?_
  intro r u1 h p e s m args below meth c A C0 H locs ls hP hD hS hl
  obtain ⟨hx, hb, hml, hr, hown, hts, hlocks, hA, hK3, hN, hX, hT, hC⟩ := id C0
  have hK : va_K D vwCl (kT cI cZ) s := hK3.sub [0, 1] rfl
  have hl : lv_has ls 4 [(0, .ref (a4 0)), (1, .int x1), (2, .ref ao)] := hl
  unfold f_L_matched at h
  refine lv_aload_n hx hb dL_matched_0 rfl (lv_at hl 2 rfl) ?_
  refine lv_iconst (v := 0) hx hb dL_matched_1 rfl ?_
  refine lv_aload_n hx hb dL_matched_2 rfl (lv_at hl 0 rfl) ?_
  refine lv_iload_n hx hb dL_matched_3 rfl (lv_at hl 1 rfl) ?_
  obtain ⟨q1, hq1, h⟩ := ob h
  refine ml_i (ws' := wL4 a4 a2 a1 a3 a0 ao cI cZ cJ (q1.2, o)) (wr := wO ao cJ o) [0, 1, 2, 3, 4, 5, 6, 7, 8, 9, 10, 11, 12, 13, 14, 15, 16, 17, 18, 19, 20, 21, 22, 23, 24, 25, 26, 27, 28] [29] [1, 2, 3, 4, 5, 6, 7, 8, 9, 10, 11, 12, 13, 14, 15, 16, 17, 18, 19, 20, 21, 22, 23, 24, 25, 26, 27, 28, 29, 0] (vx_runV (As := [.int x1]) (rest := [.int 0, .ref ao]) ⟨hx, hb, hml, hown, hts⟩ (c_X4_matched l hlt D cI cZ sa a4 a2 a1 a3 a0 N x y t k b x1 q1.1 q1.2 hq1 H.size) (cwV 1 hts gL_matched_X4_matched rfl rfl rfl (by decide +kernel) ⟨Nat.le_of_ble_eq_true rfl, Nat.le_of_ble_eq_true rfl⟩) (pXV [0, 1, 2, 3, 4, 5, 6, 7, 8, 9, 10, 11, 12, 13, 14, 15, 16, 17, 18, 19, 20, 21, 22, 23, 24, 25, 26, 27, 28] hP hD hS hA hK hN hX rfl rfl rfl rfl) rfl rfl hl.1 rfl (lv_room (Nat.le_of_ble_eq_true rfl)) dL_matched_4 ⟨Nat.le_of_ble_eq_true rfl, Nat.le_of_ble_eq_true rfl⟩) hP hD hS hA rfl rfl rfl (by decide) rfl rfl (fun k9 hk9 ce q9 H locs hP hD hS hce hcv hcl => ?_) (fun r1 hr9 H locs hP hD hS => ?_)
  · rw [hk9, exL_inr] at h
    by_cases hk2 : k9 = 2
    · rw [if_pos hk2] at h
      subst hk2
      obtain ⟨rfl, rfl⟩ := so h
      refine cx_catch (E := exN 2) (name := exN 2) hown [] ⟨0, 9, 12, 24⟩ [⟨0, 9, 15, 15⟩] hT (fun z hz => by cases hz) (by decide) (by decide) (hts (.classLink RL 24 "java/lang/IndexOutOfBoundsException") (by decide +kernel)) (hX.cast 2) hce hcv hcl ?_
      refine lv_astore_n (lv' := [(3, .ref q9), (0, .ref (a4 0)), (1, .int x1), (2, .ref ao)]) hx hb dL_matched_12 rfl hl (by decide) rfl (fun ls hl => ?_)
      refine lv_iconst (v := 1) hx hb dL_matched_13 rfl ?_
      exact lret_i C0 hP hD hS dL_matched_14 (by decide) (by decide)
    rw [if_neg hk2] at h
    by_cases hk1 : k9 = 1
    · rw [if_pos hk1] at h
      subst hk1
      obtain ⟨rfl, rfl⟩ := so h
      refine cx_catch (E := exN 1) (name := exN 1) hown [⟨0, 9, 12, 24⟩] ⟨0, 9, 15, 15⟩ [] hT (fun z hz => ?_) (by decide) (by decide) (hts (.classLink RL 15 "java/lang/IllegalStateException") (by decide +kernel)) (hX.cast 1) hce hcv hcl ?_
      · simp only [List.mem_cons, List.not_mem_nil, or_false] at hz
        rcases hz with rfl
        · exact Or.inr ⟨by decide, "java/lang/IndexOutOfBoundsException", hts (.classLink RL 24 "java/lang/IndexOutOfBoundsException") (by decide +kernel), hC ("java/lang/IllegalStateException", "java/lang/IndexOutOfBoundsException") (by decide)⟩
      refine lv_astore_n (lv' := [(3, .ref q9), (0, .ref (a4 0)), (1, .int x1), (2, .ref ao)]) hx hb dL_matched_15 rfl hl (by decide) rfl (fun ls hl => ?_)
      refine lv_iconst (v := 2) hx hb dL_matched_16 rfl ?_
      exact lret_i C0 hP hD hS dL_matched_17 (by decide) (by decide)
    rw [if_neg hk1] at h
    exact no h
  · rw [hr9, exL_inl] at h
    refine lv_i2l (v := Int32.toInt64 r1) hx hb dL_matched_7 rfl ?_
    refine va_last (f := o) hx hb hK3 hP hD hS 29 2 rfl rfl (i := 0) (x := (Int32.toInt64 r1)) (by unfold vp_in; decide) dL_matched_8 (fun H locs hP hD hS => ?_)
    obtain ⟨o1, eo1, h⟩ := bn h
    have hP : va_P D vwCl (wL4 a4 a2 a1 a3 a0 ao cI cZ cJ (q1.2, o1)) H := by rw [eo1]; exact hP
    have hD : va_D A (wL4 a4 a2 a1 a3 a0 ao cI cZ cJ (q1.2, o1)) := by rw [eo1]; exact hD
    refine lv_goto (tgt := 18) hx hb dL_matched_9 (by decide) ?_
    refine lv_iconst (v := 0) hx hb dL_matched_18 rfl ?_
    obtain ⟨rfl, rfl⟩ := so h
    exact lret_i C0 hP hD hS dL_matched_19 (by decide) (by decide)
