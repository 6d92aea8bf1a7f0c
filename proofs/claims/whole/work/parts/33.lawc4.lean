def g_law_16 (N : Nat) (xs : Nat → Int32) (L : Nat) (K : Int32 → S5 → (Nat → Int64) → St → Option Int32) (i : Int32) (u : S5) (o : Nat → Int64) (σ : St) : Option Int32 := if (i + 1) < 0 ∨ L ≤ ((i + 1)).toNatClampNeg then none else if (i + 2) < 0 ∨ L ≤ ((i + 2)).toNatClampNeg then none else (f_L_same N u.1 u.2.1 u.2.2.1 u.2.2.2.1 u.2.2.2.2 o (xs ((i + 1)).toNatClampNeg) (xs ((i + 2)).toNatClampNeg)).bind (fun q1 => if (i + 1) < 0 ∨ L ≤ ((i + 1)).toNatClampNeg then none else if (i + 2) < 0 ∨ L ≤ ((i + 2)).toNatClampNeg then none else (f_X5_same N σ (xs ((i + 1)).toNatClampNeg) (xs ((i + 2)).toNatClampNeg)).bind (fun q2 => (f_X5_thrown N q2.2 ).bind (fun q3 => if q3.1 = q1.1 then if q1.1 = 0 then if q2.1 = 0 then if (lg_cmp (q1.2.2 (Int32.toNatClampNeg 0)) 0) = 0 then K (i + 4) q1.2.1 q1.2.2 q3.2 else some (0 : Int32) else if (lg_cmp (q1.2.2 (Int32.toNatClampNeg 0)) 1) = 0 then K (i + 4) q1.2.1 q1.2.2 q3.2 else some (0 : Int32) else K (i + 4) q1.2.1 q1.2.2 q3.2 else some (0 : Int32))))
set_option maxHeartbeats 4000000 in
set_option maxRecDepth 100000 in
theorem k_law_16 {p : Program} {l : Launch} {e : Env} {s : State} {m : MethodId} {below : List Frame} {meth : Method} {c : Code} {D : va_G} {cI cZ cJ : ClassId} {sa : Nat → Nat} {a4 a2 a1 a3 a0 a5 : Nat → Nat} {ao b L : Nat} {xs : Nat → Int32} (C0 : lC p l s m meth c b L xs D cI cZ cJ sa) (N : Nat) (n : Nat) (K : Int32 → S5 → (Nat → Int64) → St → Option Int32) (hk : KPl p l e s m below meth c D cI cZ cJ a4 a2 a1 a3 a0 a5 ao b n K 23) : KPl p l e s m below meth c D cI cZ cJ a4 a2 a1 a3 a0 a5 ao b (n + 1) (g_law_16 N xs L K) 1212 := by
  obtain ⟨hx, hb, hr, hml, hown, hts, hX9, hbl, hlocks, hK3, hN, hXP, hC, hlt⟩ := id C0
  have hK : va_K D vwCl (kT cI cZ) s := hK3.sub [0, 1] rfl
  have hA : ∀ q : Nat, s.heap.size ≤ q → (fun q : Nat => s.heap.size ≤ q) q := fun _ h => h
  have hbA : ¬ (fun q : Nat => s.heap.size ≤ q) b := Nat.not_le.mpr hbl
  intro i u o σ cells slots H locs ls hc9 hs9 hP hD hS hl h
  unfold g_law_16 at h
  refine lv_aload_n hx hb dL_law_1212 rfl (lv_at hl 1 rfl) ?_
  refine lv_aload_n hx hb dL_law_1213 rfl (lv_at hl 0 rfl) ?_
  refine lv_iload hx hb dL_law_1214 (lv_at hl 4 rfl) ?_
  refine lv_iconst (v := 1) hx hb dL_law_1216 rfl ?_
  refine lv_iadd hx hb dL_law_1217 ?_
  by_cases hi : (i + 1) < 0 ∨ L ≤ ((i + 1)).toNatClampNeg
  · rw [if_pos hi] at h; exact no h
  rw [if_neg hi] at h
  refine va_sld hx hb hX9 hbl hbA hS (i := (i + 1)) hi dL_law_1218 ?_
  refine lv_aload_n hx hb dL_law_1219 rfl (lv_at hl 0 rfl) ?_
  refine lv_iload hx hb dL_law_1220 (lv_at hl 4 rfl) ?_
  refine lv_iconst (v := 2) hx hb dL_law_1222 rfl ?_
  refine lv_iadd hx hb dL_law_1223 ?_
  by_cases hi : (i + 2) < 0 ∨ L ≤ ((i + 2)).toNatClampNeg
  · rw [if_pos hi] at h; exact no h
  rw [if_neg hi] at h
  refine va_sld hx hb hX9 hbl hbA hS (i := (i + 2)) hi dL_law_1224 ?_
  refine lv_aload_n hx hb dL_law_1225 rfl (lv_at hl 3 rfl) ?_
  obtain ⟨q1, hq1, h⟩ := ob h
  refine mh_i (ws' := wLL a4 a2 a1 a3 a0 ao a5 cI cZ cJ ((q1.2.1, q1.2.2), σ)) (wr := wX5 a5 cI cZ σ) [0, 1, 2, 3, 4, 5, 6, 7, 8, 9, 10, 11, 12, 13, 14, 15, 16, 17, 18, 19, 20, 21, 22, 23, 24, 25, 26, 27, 28, 29] [30, 31, 32, 33, 34, 35, 36, 37, 38, 39, 40, 41, 42, 43, 44, 45, 46, 47, 48, 49, 50, 51, 52] [23, 24, 25, 26, 27, 28, 29, 30, 31, 32, 33, 34, 35, 36, 37, 38, 39, 40, 41, 42, 43, 44, 45, 46, 47, 48, 49, 50, 51, 52, 0, 1, 2, 3, 4, 5, 6, 7, 8, 9, 10, 11, 12, 13, 14, 15, 16, 17, 18, 19, 20, 21, 22] (vx_runSW (As := [.ref (a4 0), .int (xs ((i + 1)).toNatClampNeg), .int (xs ((i + 2)).toNatClampNeg), .ref (ao)]) (rest := []) ⟨hx, hb, hml, hown, hts⟩ (c_L_same l hlt D cI cZ cJ sa a4 a2 a1 a3 a0 ao N u.1 u.2.1 u.2.2.1 u.2.2.2.1 u.2.2.2.2 o (xs ((i + 1)).toNatClampNeg) (xs ((i + 2)).toNatClampNeg) q1.1 q1.2 hq1 H.size) (vx_cwSW 4 hts gL_law_L_same rfl rfl rfl (by decide +kernel) ⟨Nat.le_of_ble_eq_true rfl, Nat.le_of_ble_eq_true rfl⟩) (pLS [0, 1, 2, 3, 4, 5, 6, 7, 8, 9, 10, 11, 12, 13, 14, 15, 16, 17, 18, 19, 20, 21, 22, 23, 24, 25, 26, 27, 28, 29] hP hD hS hA hK3 hN hXP hC rfl rfl) rfl rfl hl.1 rfl (lv_room (Nat.le_of_ble_eq_true rfl)) dL_law_1226 ⟨by show cells + 2 ≤ 601024; omega, by show slots + 12 ≤ 7293034; omega⟩) hP hD hS hA rfl rfl rfl (by decide) rfl rfl (fun H locs hP hD hS => ?_)
  refine lv_istore (lv' := [(5, .int q1.1), (0, .ref (b)), (1, .ref (a4 0)), (2, .ref (a5 0)), (3, .ref (ao)), (4, .int i)]) hx hb dL_law_1229 hl (by decide) rfl (fun ls hl => ?_)
  refine lv_aload_n hx hb dL_law_1231 rfl (lv_at hl 3 rfl) ?_
  refine lv_aload_n hx hb dL_law_1232 rfl (lv_at hl 1 rfl) ?_
  refine lv_iload hx hb dL_law_1233 (lv_at hl 5 rfl) ?_
  refine lv_iconst (v := 1) hx hb dL_law_1235 rfl ?_
  refine lv_iadd hx hb dL_law_1236 ?_
  by_cases hi : (i + 1) < 0 ∨ L ≤ ((i + 1)).toNatClampNeg
  · rw [if_pos hi] at h; exact no h
  rw [if_neg hi] at h
  refine va_sld hx hb hX9 hbl hbA hS (i := (i + 1)) hi dL_law_1237 ?_
  refine lv_aload_n hx hb dL_law_1238 rfl (lv_at hl 1 rfl) ?_
  refine lv_iload hx hb dL_law_1239 (lv_at hl 5 rfl) ?_
  refine lv_iconst (v := 2) hx hb dL_law_1241 rfl ?_
  refine lv_iadd hx hb dL_law_1242 ?_
  by_cases hi : (i + 2) < 0 ∨ L ≤ ((i + 2)).toNatClampNeg
  · rw [if_pos hi] at h; exact no h
  rw [if_neg hi] at h
  refine va_sld hx hb hX9 hbl hbA hS (i := (i + 2)) hi dL_law_1243 ?_
  obtain ⟨q2, hq2, h⟩ := ob h
  refine mg_i (ws' := wLL a4 a2 a1 a3 a0 ao a5 cI cZ cJ ((q1.2.1, q1.2.2), q2.2)) (wr := wL4 a4 a2 a1 a3 a0 ao cI cZ cJ (q1.2.1, q1.2.2)) [30, 31, 32, 33, 34, 35, 36, 37, 38, 39, 40, 41, 42, 43, 44, 45, 46, 47, 48, 49, 50, 51, 52] [0, 1, 2, 3, 4, 5, 6, 7, 8, 9, 10, 11, 12, 13, 14, 15, 16, 17, 18, 19, 20, 21, 22, 23, 24, 25, 26, 27, 28, 29] [0, 1, 2, 3, 4, 5, 6, 7, 8, 9, 10, 11, 12, 13, 14, 15, 16, 17, 18, 19, 20, 21, 22, 23, 24, 25, 26, 27, 28, 29, 30, 31, 32, 33, 34, 35, 36, 37, 38, 39, 40, 41, 42, 43, 44, 45, 46, 47, 48, 49, 50, 51, 52] (va_runV (As := [.int (xs ((i + 1)).toNatClampNeg), .int (xs ((i + 2)).toNatClampNeg)]) (rest := []) ⟨hx, hb, hml, hown, hts⟩ (c_X5_same l D cI cZ a5 N σ (xs ((i + 1)).toNatClampNeg) (xs ((i + 2)).toNatClampNeg) q2.1 q2.2 hq2 H.size) (cwV 2 hts gL_law_X5_same rfl rfl rfl (by decide +kernel) ⟨Nat.le_of_ble_eq_true rfl, Nat.le_of_ble_eq_true rfl⟩) (pV [30, 31, 32, 33, 34, 35, 36, 37, 38, 39, 40, 41, 42, 43, 44, 45, 46, 47, 48, 49, 50, 51, 52] hP hD hK hN rfl rfl rfl rfl) rfl rfl hl.1 rfl (lv_room (Nat.le_of_ble_eq_true rfl)) dL_law_1244 ⟨by show cells + 2 + 0 ≤ 601024; omega, by show slots + 12 + 0 ≤ 7293034; omega⟩) hP hD hS hA rfl rfl rfl (by decide) rfl rfl (fun H locs hP hD hS => ?_)
  refine lv_istore (lv' := [(6, .int q2.1), (5, .int q1.1), (0, .ref (b)), (1, .ref (a4 0)), (2, .ref (a5 0)), (3, .ref (ao)), (4, .int i)]) hx hb dL_law_1247 hl (by decide) rfl (fun ls hl => ?_)
  refine lv_aload_n hx hb dL_law_1249 rfl (lv_at hl 4 rfl) ?_
  obtain ⟨q3, hq3, h⟩ := ob h
  refine mg_i (ws' := wLL a4 a2 a1 a3 a0 ao a5 cI cZ cJ ((q1.2.1, q1.2.2), q3.2)) (wr := wL4 a4 a2 a1 a3 a0 ao cI cZ cJ (q1.2.1, q1.2.2)) [30, 31, 32, 33, 34, 35, 36, 37, 38, 39, 40, 41, 42, 43, 44, 45, 46, 47, 48, 49, 50, 51, 52] [0, 1, 2, 3, 4, 5, 6, 7, 8, 9, 10, 11, 12, 13, 14, 15, 16, 17, 18, 19, 20, 21, 22, 23, 24, 25, 26, 27, 28, 29] [0, 1, 2, 3, 4, 5, 6, 7, 8, 9, 10, 11, 12, 13, 14, 15, 16, 17, 18, 19, 20, 21, 22, 23, 24, 25, 26, 27, 28, 29, 30, 31, 32, 33, 34, 35, 36, 37, 38, 39, 40, 41, 42, 43, 44, 45, 46, 47, 48, 49, 50, 51, 52] (va_runV (As := []) (rest := []) ⟨hx, hb, hml, hown, hts⟩ (c_X5_thrown l D cI cZ a5 N q2.2  q3.1 q3.2 hq3 H.size) (cwV 0 hts gL_law_X5_thrown rfl rfl rfl (by decide +kernel) ⟨Nat.le_of_ble_eq_true rfl, Nat.le_of_ble_eq_true rfl⟩) (pV [30, 31, 32, 33, 34, 35, 36, 37, 38, 39, 40, 41, 42, 43, 44, 45, 46, 47, 48, 49, 50, 51, 52] hP hD hK hN rfl rfl rfl rfl) rfl rfl hl.1 rfl (lv_room (Nat.le_of_ble_eq_true rfl)) dL_law_1250 ⟨by show cells + 2 + 0 ≤ 601024; omega, by show slots + 12 + 0 ≤ 7293034; omega⟩) hP hD hS hA rfl rfl rfl (by decide) rfl rfl (fun H locs hP hD hS => ?_)
  refine lv_iload hx hb dL_law_1253 (lv_at hl 1 rfl) ?_
  refine lv_icmp_eq (tgt := 1260) hx hb dL_law_1255 (by decide) (fun hc4 => ?_) (fun hc4 => ?_)
  · rw [if_pos hc4] at h
    refine lv_iload hx hb dL_law_1260 (lv_at hl 1 rfl) ?_
    refine lv_if_ne (tgt := 1284) hx hb dL_law_1262 (by decide) (fun hc5 => ?_) (fun hc5 => ?_)
    · rw [if_neg hc5] at h
      refine lv_goto (tgt := 1561) hx hb dL_law_1284 (by decide) ?_
      refine lv_iinc (v := (i + 4)) (lv' := [(4, .int (i + 4)), (6, .int q2.1), (5, .int q1.1), (0, .ref (b)), (1, .ref (a4 0)), (2, .ref (a5 0)), (3, .ref (ao))]) hx hb dL_law_1561 hl (k := 6) rfl rfl (by decide) rfl (fun ls hl => ?_)
      refine lv_goto (tgt := 23) hx hb dL_law_1564 (by decide) ?_
      refine W.widen (k := cells + 5) (n := slots + 30) (by omega) (by omega) ?_
      exact hk (i + 4) q1.2.1 q1.2.2 q3.2 _ _ _ _ _ (by omega) (by omega) hP hD hS (lv_sub hl [3, 4, 5, 6, 0] rfl) h
    · rw [if_pos hc5] at h
      refine lv_aload_n hx hb dL_law_1265 rfl (lv_at hl 5 rfl) ?_
      refine lv_iconst (v := 0) hx hb dL_law_1266 rfl ?_
      refine va_lald (f := q1.2.2) hx hb hK3 hP 29 2 rfl rfl (i := 0) (by unfold vp_in; decide) dL_law_1267 ?_
      refine lv_iload hx hb dL_law_1268 (lv_at hl 0 rfl) ?_
      refine lv_if_eq (tgt := 1277) hx hb dL_law_1270 (by decide) (fun hc6 => ?_) (fun hc6 => ?_)
      · rw [if_pos hc6] at h
        refine lv_lconst (v := 0) hx hb dL_law_1277 rfl ?_
        refine W.lcmp hx hb dL_law_1278 ?_
        refine lv_if_eq (tgt := 1284) hx hb dL_law_1279 (by decide) (fun hc7 => ?_) (fun hc7 => ?_)
        · rw [if_pos hc7] at h
          refine lv_goto (tgt := 1561) hx hb dL_law_1284 (by decide) ?_
          refine lv_iinc (v := (i + 4)) (lv' := [(4, .int (i + 4)), (6, .int q2.1), (5, .int q1.1), (0, .ref (b)), (1, .ref (a4 0)), (2, .ref (a5 0)), (3, .ref (ao))]) hx hb dL_law_1561 hl (k := 6) rfl rfl (by decide) rfl (fun ls hl => ?_)
          refine lv_goto (tgt := 23) hx hb dL_law_1564 (by decide) ?_
          refine W.widen (k := cells + 5) (n := slots + 30) (by omega) (by omega) ?_
          exact hk (i + 4) q1.2.1 q1.2.2 q3.2 _ _ _ _ _ (by omega) (by omega) hP hD hS (lv_sub hl [3, 4, 5, 6, 0] rfl) h
        · rw [if_neg hc7] at h
          refine lv_iconst (v := 0) hx hb dL_law_1282 rfl ?_
          exact absurd (Option.some.inj h) (by decide)
      · rw [if_neg hc6] at h
        refine lv_lconst (v := 1) hx hb dL_law_1273 rfl ?_
        refine lv_goto (tgt := 1278) hx hb dL_law_1274 (by decide) ?_
        refine W.lcmp hx hb dL_law_1278 ?_
        refine lv_if_eq (tgt := 1284) hx hb dL_law_1279 (by decide) (fun hc8 => ?_) (fun hc8 => ?_)
        · rw [if_pos hc8] at h
          refine lv_goto (tgt := 1561) hx hb dL_law_1284 (by decide) ?_
          refine lv_iinc (v := (i + 4)) (lv' := [(4, .int (i + 4)), (6, .int q2.1), (5, .int q1.1), (0, .ref (b)), (1, .ref (a4 0)), (2, .ref (a5 0)), (3, .ref (ao))]) hx hb dL_law_1561 hl (k := 6) rfl rfl (by decide) rfl (fun ls hl => ?_)
          refine lv_goto (tgt := 23) hx hb dL_law_1564 (by decide) ?_
          refine W.widen (k := cells + 5) (n := slots + 30) (by omega) (by omega) ?_
          exact hk (i + 4) q1.2.1 q1.2.2 q3.2 _ _ _ _ _ (by omega) (by omega) hP hD hS (lv_sub hl [3, 4, 5, 6, 0] rfl) h
        · rw [if_neg hc8] at h
          refine lv_iconst (v := 0) hx hb dL_law_1282 rfl ?_
          exact absurd (Option.some.inj h) (by decide)
  · rw [if_neg hc4] at h
    refine lv_iconst (v := 0) hx hb dL_law_1258 rfl ?_
    exact absurd (Option.some.inj h) (by decide)
def g_law_17 (N : Nat) (xs : Nat → Int32) (L : Nat) (K : Int32 → S5 → (Nat → Int64) → St → Option Int32) (i : Int32) (u : S5) (o : Nat → Int64) (σ : St) : Option Int32 := if (i + 1) < 0 ∨ L ≤ ((i + 1)).toNatClampNeg then none else if (i + 2) < 0 ∨ L ≤ ((i + 2)).toNatClampNeg then none else (f_L_sameType N u.1 u.2.1 u.2.2.1 u.2.2.2.1 u.2.2.2.2 o (xs ((i + 1)).toNatClampNeg) (xs ((i + 2)).toNatClampNeg)).bind (fun q1 => if (i + 1) < 0 ∨ L ≤ ((i + 1)).toNatClampNeg then none else if (i + 2) < 0 ∨ L ≤ ((i + 2)).toNatClampNeg then none else (f_X5_sameType N σ (xs ((i + 1)).toNatClampNeg) (xs ((i + 2)).toNatClampNeg)).bind (fun q2 => (f_X5_thrown N q2.2 ).bind (fun q3 => if q3.1 = q1.1 then if q1.1 = 0 then if q2.1 = 0 then if (lg_cmp (q1.2.2 (Int32.toNatClampNeg 0)) 0) = 0 then K (i + 4) q1.2.1 q1.2.2 q3.2 else some (0 : Int32) else if (lg_cmp (q1.2.2 (Int32.toNatClampNeg 0)) 1) = 0 then K (i + 4) q1.2.1 q1.2.2 q3.2 else some (0 : Int32) else K (i + 4) q1.2.1 q1.2.2 q3.2 else some (0 : Int32))))
set_option maxHeartbeats 4000000 in
set_option maxRecDepth 100000 in
theorem k_law_17 {p : Program} {l : Launch} {e : Env} {s : State} {m : MethodId} {below : List Frame} {meth : Method} {c : Code} {D : va_G} {cI cZ cJ : ClassId} {sa : Nat → Nat} {a4 a2 a1 a3 a0 a5 : Nat → Nat} {ao b L : Nat} {xs : Nat → Int32} (C0 : lC p l s m meth c b L xs D cI cZ cJ sa) (N : Nat) (n : Nat) (K : Int32 → S5 → (Nat → Int64) → St → Option Int32) (hk : KPl p l e s m below meth c D cI cZ cJ a4 a2 a1 a3 a0 a5 ao b n K 23) : KPl p l e s m below meth c D cI cZ cJ a4 a2 a1 a3 a0 a5 ao b (n + 1) (g_law_17 N xs L K) 1287 := by
  obtain ⟨hx, hb, hr, hml, hown, hts, hX9, hbl, hlocks, hK3, hN, hXP, hC, hlt⟩ := id C0
  have hK : va_K D vwCl (kT cI cZ) s := hK3.sub [0, 1] rfl
  have hA : ∀ q : Nat, s.heap.size ≤ q → (fun q : Nat => s.heap.size ≤ q) q := fun _ h => h
  have hbA : ¬ (fun q : Nat => s.heap.size ≤ q) b := Nat.not_le.mpr hbl
  intro i u o σ cells slots H locs ls hc9 hs9 hP hD hS hl h
  unfold g_law_17 at h
  refine lv_aload_n hx hb dL_law_1287 rfl (lv_at hl 1 rfl) ?_
  refine lv_aload_n hx hb dL_law_1288 rfl (lv_at hl 0 rfl) ?_
  refine lv_iload hx hb dL_law_1289 (lv_at hl 4 rfl) ?_
  refine lv_iconst (v := 1) hx hb dL_law_1291 rfl ?_
  refine lv_iadd hx hb dL_law_1292 ?_
  by_cases hi : (i + 1) < 0 ∨ L ≤ ((i + 1)).toNatClampNeg
  · rw [if_pos hi] at h; exact no h
  rw [if_neg hi] at h
  refine va_sld hx hb hX9 hbl hbA hS (i := (i + 1)) hi dL_law_1293 ?_
  refine lv_aload_n hx hb dL_law_1294 rfl (lv_at hl 0 rfl) ?_
  refine lv_iload hx hb dL_law_1295 (lv_at hl 4 rfl) ?_
  refine lv_iconst (v := 2) hx hb dL_law_1297 rfl ?_
  refine lv_iadd hx hb dL_law_1298 ?_
  by_cases hi : (i + 2) < 0 ∨ L ≤ ((i + 2)).toNatClampNeg
  · rw [if_pos hi] at h; exact no h
  rw [if_neg hi] at h
  refine va_sld hx hb hX9 hbl hbA hS (i := (i + 2)) hi dL_law_1299 ?_
  refine lv_aload_n hx hb dL_law_1300 rfl (lv_at hl 3 rfl) ?_
  obtain ⟨q1, hq1, h⟩ := ob h
  refine mh_i (ws' := wLL a4 a2 a1 a3 a0 ao a5 cI cZ cJ ((q1.2.1, q1.2.2), σ)) (wr := wX5 a5 cI cZ σ) [0, 1, 2, 3, 4, 5, 6, 7, 8, 9, 10, 11, 12, 13, 14, 15, 16, 17, 18, 19, 20, 21, 22, 23, 24, 25, 26, 27, 28, 29] [30, 31, 32, 33, 34, 35, 36, 37, 38, 39, 40, 41, 42, 43, 44, 45, 46, 47, 48, 49, 50, 51, 52] [23, 24, 25, 26, 27, 28, 29, 30, 31, 32, 33, 34, 35, 36, 37, 38, 39, 40, 41, 42, 43, 44, 45, 46, 47, 48, 49, 50, 51, 52, 0, 1, 2, 3, 4, 5, 6, 7, 8, 9, 10, 11, 12, 13, 14, 15, 16, 17, 18, 19, 20, 21, 22] (vx_runSW (As := [.ref (a4 0), .int (xs ((i + 1)).toNatClampNeg), .int (xs ((i + 2)).toNatClampNeg), .ref (ao)]) (rest := []) ⟨hx, hb, hml, hown, hts⟩ (c_L_sameType l hlt D cI cZ cJ sa a4 a2 a1 a3 a0 ao N u.1 u.2.1 u.2.2.1 u.2.2.2.1 u.2.2.2.2 o (xs ((i + 1)).toNatClampNeg) (xs ((i + 2)).toNatClampNeg) q1.1 q1.2 hq1 H.size) (vx_cwSW 4 hts gL_law_L_sameType rfl rfl rfl (by decide +kernel) ⟨Nat.le_of_ble_eq_true rfl, Nat.le_of_ble_eq_true rfl⟩) (pLS [0, 1, 2, 3, 4, 5, 6, 7, 8, 9, 10, 11, 12, 13, 14, 15, 16, 17, 18, 19, 20, 21, 22, 23, 24, 25, 26, 27, 28, 29] hP hD hS hA hK3 hN hXP hC rfl rfl) rfl rfl hl.1 rfl (lv_room (Nat.le_of_ble_eq_true rfl)) dL_law_1301 ⟨by show cells + 2 ≤ 601024; omega, by show slots + 12 ≤ 7293034; omega⟩) hP hD hS hA rfl rfl rfl (by decide) rfl rfl (fun H locs hP hD hS => ?_)
  refine lv_istore (lv' := [(5, .int q1.1), (0, .ref (b)), (1, .ref (a4 0)), (2, .ref (a5 0)), (3, .ref (ao)), (4, .int i)]) hx hb dL_law_1304 hl (by decide) rfl (fun ls hl => ?_)
  refine lv_aload_n hx hb dL_law_1306 rfl (lv_at hl 3 rfl) ?_
  refine lv_aload_n hx hb dL_law_1307 rfl (lv_at hl 1 rfl) ?_
  refine lv_iload hx hb dL_law_1308 (lv_at hl 5 rfl) ?_
  refine lv_iconst (v := 1) hx hb dL_law_1310 rfl ?_
  refine lv_iadd hx hb dL_law_1311 ?_
  by_cases hi : (i + 1) < 0 ∨ L ≤ ((i + 1)).toNatClampNeg
  · rw [if_pos hi] at h; exact no h
  rw [if_neg hi] at h
  refine va_sld hx hb hX9 hbl hbA hS (i := (i + 1)) hi dL_law_1312 ?_
  refine lv_aload_n hx hb dL_law_1313 rfl (lv_at hl 1 rfl) ?_
  refine lv_iload hx hb dL_law_1314 (lv_at hl 5 rfl) ?_
  refine lv_iconst (v := 2) hx hb dL_law_1316 rfl ?_
  refine lv_iadd hx hb dL_law_1317 ?_
  by_cases hi : (i + 2) < 0 ∨ L ≤ ((i + 2)).toNatClampNeg
  · rw [if_pos hi] at h; exact no h
  rw [if_neg hi] at h
  refine va_sld hx hb hX9 hbl hbA hS (i := (i + 2)) hi dL_law_1318 ?_
  obtain ⟨q2, hq2, h⟩ := ob h
  refine mg_i (ws' := wLL a4 a2 a1 a3 a0 ao a5 cI cZ cJ ((q1.2.1, q1.2.2), q2.2)) (wr := wL4 a4 a2 a1 a3 a0 ao cI cZ cJ (q1.2.1, q1.2.2)) [30, 31, 32, 33, 34, 35, 36, 37, 38, 39, 40, 41, 42, 43, 44, 45, 46, 47, 48, 49, 50, 51, 52] [0, 1, 2, 3, 4, 5, 6, 7, 8, 9, 10, 11, 12, 13, 14, 15, 16, 17, 18, 19, 20, 21, 22, 23, 24, 25, 26, 27, 28, 29] [0, 1, 2, 3, 4, 5, 6, 7, 8, 9, 10, 11, 12, 13, 14, 15, 16, 17, 18, 19, 20, 21, 22, 23, 24, 25, 26, 27, 28, 29, 30, 31, 32, 33, 34, 35, 36, 37, 38, 39, 40, 41, 42, 43, 44, 45, 46, 47, 48, 49, 50, 51, 52] (va_runV (As := [.int (xs ((i + 1)).toNatClampNeg), .int (xs ((i + 2)).toNatClampNeg)]) (rest := []) ⟨hx, hb, hml, hown, hts⟩ (c_X5_sameType l D cI cZ a5 N σ (xs ((i + 1)).toNatClampNeg) (xs ((i + 2)).toNatClampNeg) q2.1 q2.2 hq2 H.size) (cwV 2 hts gL_law_X5_sameType rfl rfl rfl (by decide +kernel) ⟨Nat.le_of_ble_eq_true rfl, Nat.le_of_ble_eq_true rfl⟩) (pV [30, 31, 32, 33, 34, 35, 36, 37, 38, 39, 40, 41, 42, 43, 44, 45, 46, 47, 48, 49, 50, 51, 52] hP hD hK hN rfl rfl rfl rfl) rfl rfl hl.1 rfl (lv_room (Nat.le_of_ble_eq_true rfl)) dL_law_1319 ⟨by show cells + 2 + 0 ≤ 601024; omega, by show slots + 12 + 0 ≤ 7293034; omega⟩) hP hD hS hA rfl rfl rfl (by decide) rfl rfl (fun H locs hP hD hS => ?_)
  refine lv_istore (lv' := [(6, .int q2.1), (5, .int q1.1), (0, .ref (b)), (1, .ref (a4 0)), (2, .ref (a5 0)), (3, .ref (ao)), (4, .int i)]) hx hb dL_law_1322 hl (by decide) rfl (fun ls hl => ?_)
  refine lv_aload_n hx hb dL_law_1324 rfl (lv_at hl 4 rfl) ?_
  obtain ⟨q3, hq3, h⟩ := ob h
  refine mg_i (ws' := wLL a4 a2 a1 a3 a0 ao a5 cI cZ cJ ((q1.2.1, q1.2.2), q3.2)) (wr := wL4 a4 a2 a1 a3 a0 ao cI cZ cJ (q1.2.1, q1.2.2)) [30, 31, 32, 33, 34, 35, 36, 37, 38, 39, 40, 41, 42, 43, 44, 45, 46, 47, 48, 49, 50, 51, 52] [0, 1, 2, 3, 4, 5, 6, 7, 8, 9, 10, 11, 12, 13, 14, 15, 16, 17, 18, 19, 20, 21, 22, 23, 24, 25, 26, 27, 28, 29] [0, 1, 2, 3, 4, 5, 6, 7, 8, 9, 10, 11, 12, 13, 14, 15, 16, 17, 18, 19, 20, 21, 22, 23, 24, 25, 26, 27, 28, 29, 30, 31, 32, 33, 34, 35, 36, 37, 38, 39, 40, 41, 42, 43, 44, 45, 46, 47, 48, 49, 50, 51, 52] (va_runV (As := []) (rest := []) ⟨hx, hb, hml, hown, hts⟩ (c_X5_thrown l D cI cZ a5 N q2.2  q3.1 q3.2 hq3 H.size) (cwV 0 hts gL_law_X5_thrown rfl rfl rfl (by decide +kernel) ⟨Nat.le_of_ble_eq_true rfl, Nat.le_of_ble_eq_true rfl⟩) (pV [30, 31, 32, 33, 34, 35, 36, 37, 38, 39, 40, 41, 42, 43, 44, 45, 46, 47, 48, 49, 50, 51, 52] hP hD hK hN rfl rfl rfl rfl) rfl rfl hl.1 rfl (lv_room (Nat.le_of_ble_eq_true rfl)) dL_law_1325 ⟨by show cells + 2 + 0 ≤ 601024; omega, by show slots + 12 + 0 ≤ 7293034; omega⟩) hP hD hS hA rfl rfl rfl (by decide) rfl rfl (fun H locs hP hD hS => ?_)
  refine lv_iload hx hb dL_law_1328 (lv_at hl 1 rfl) ?_
  refine lv_icmp_eq (tgt := 1335) hx hb dL_law_1330 (by decide) (fun hc4 => ?_) (fun hc4 => ?_)
  · rw [if_pos hc4] at h
    refine lv_iload hx hb dL_law_1335 (lv_at hl 1 rfl) ?_
    refine lv_if_ne (tgt := 1359) hx hb dL_law_1337 (by decide) (fun hc5 => ?_) (fun hc5 => ?_)
    · rw [if_neg hc5] at h
      refine lv_goto (tgt := 1561) hx hb dL_law_1359 (by decide) ?_
      refine lv_iinc (v := (i + 4)) (lv' := [(4, .int (i + 4)), (6, .int q2.1), (5, .int q1.1), (0, .ref (b)), (1, .ref (a4 0)), (2, .ref (a5 0)), (3, .ref (ao))]) hx hb dL_law_1561 hl (k := 6) rfl rfl (by decide) rfl (fun ls hl => ?_)
      refine lv_goto (tgt := 23) hx hb dL_law_1564 (by decide) ?_
      refine W.widen (k := cells + 5) (n := slots + 30) (by omega) (by omega) ?_
      exact hk (i + 4) q1.2.1 q1.2.2 q3.2 _ _ _ _ _ (by omega) (by omega) hP hD hS (lv_sub hl [3, 4, 5, 6, 0] rfl) h
    · rw [if_pos hc5] at h
      refine lv_aload_n hx hb dL_law_1340 rfl (lv_at hl 5 rfl) ?_
      refine lv_iconst (v := 0) hx hb dL_law_1341 rfl ?_
      refine va_lald (f := q1.2.2) hx hb hK3 hP 29 2 rfl rfl (i := 0) (by unfold vp_in; decide) dL_law_1342 ?_
      refine lv_iload hx hb dL_law_1343 (lv_at hl 0 rfl) ?_
      refine lv_if_eq (tgt := 1352) hx hb dL_law_1345 (by decide) (fun hc6 => ?_) (fun hc6 => ?_)
      · rw [if_pos hc6] at h
        refine lv_lconst (v := 0) hx hb dL_law_1352 rfl ?_
        refine W.lcmp hx hb dL_law_1353 ?_
        refine lv_if_eq (tgt := 1359) hx hb dL_law_1354 (by decide) (fun hc7 => ?_) (fun hc7 => ?_)
        · rw [if_pos hc7] at h
          refine lv_goto (tgt := 1561) hx hb dL_law_1359 (by decide) ?_
          refine lv_iinc (v := (i + 4)) (lv' := [(4, .int (i + 4)), (6, .int q2.1), (5, .int q1.1), (0, .ref (b)), (1, .ref (a4 0)), (2, .ref (a5 0)), (3, .ref (ao))]) hx hb dL_law_1561 hl (k := 6) rfl rfl (by decide) rfl (fun ls hl => ?_)
          refine lv_goto (tgt := 23) hx hb dL_law_1564 (by decide) ?_
          refine W.widen (k := cells + 5) (n := slots + 30) (by omega) (by omega) ?_
          exact hk (i + 4) q1.2.1 q1.2.2 q3.2 _ _ _ _ _ (by omega) (by omega) hP hD hS (lv_sub hl [3, 4, 5, 6, 0] rfl) h
        · rw [if_neg hc7] at h
          refine lv_iconst (v := 0) hx hb dL_law_1357 rfl ?_
          exact absurd (Option.some.inj h) (by decide)
      · rw [if_neg hc6] at h
        refine lv_lconst (v := 1) hx hb dL_law_1348 rfl ?_
        refine lv_goto (tgt := 1353) hx hb dL_law_1349 (by decide) ?_
        refine W.lcmp hx hb dL_law_1353 ?_
        refine lv_if_eq (tgt := 1359) hx hb dL_law_1354 (by decide) (fun hc8 => ?_) (fun hc8 => ?_)
        · rw [if_pos hc8] at h
          refine lv_goto (tgt := 1561) hx hb dL_law_1359 (by decide) ?_
          refine lv_iinc (v := (i + 4)) (lv' := [(4, .int (i + 4)), (6, .int q2.1), (5, .int q1.1), (0, .ref (b)), (1, .ref (a4 0)), (2, .ref (a5 0)), (3, .ref (ao))]) hx hb dL_law_1561 hl (k := 6) rfl rfl (by decide) rfl (fun ls hl => ?_)
          refine lv_goto (tgt := 23) hx hb dL_law_1564 (by decide) ?_
          refine W.widen (k := cells + 5) (n := slots + 30) (by omega) (by omega) ?_
          exact hk (i + 4) q1.2.1 q1.2.2 q3.2 _ _ _ _ _ (by omega) (by omega) hP hD hS (lv_sub hl [3, 4, 5, 6, 0] rfl) h
        · rw [if_neg hc8] at h
          refine lv_iconst (v := 0) hx hb dL_law_1357 rfl ?_
          exact absurd (Option.some.inj h) (by decide)
  · rw [if_neg hc4] at h
    refine lv_iconst (v := 0) hx hb dL_law_1333 rfl ?_
    exact absurd (Option.some.inj h) (by decide)
def g_law_18 (N : Nat) (xs : Nat → Int32) (L : Nat) (K : Int32 → S5 → (Nat → Int64) → St → Option Int32) (i : Int32) (u : S5) (o : Nat → Int64) (σ : St) : Option Int32 := if (i + 1) < 0 ∨ L ≤ ((i + 1)).toNatClampNeg then none else if (i + 2) < 0 ∨ L ≤ ((i + 2)).toNatClampNeg then none else (f_L_occurs N u.1 u.2.1 u.2.2.1 u.2.2.2.1 u.2.2.2.2 o (xs ((i + 1)).toNatClampNeg) (xs ((i + 2)).toNatClampNeg)).bind (fun q1 => if (i + 1) < 0 ∨ L ≤ ((i + 1)).toNatClampNeg then none else if (i + 2) < 0 ∨ L ≤ ((i + 2)).toNatClampNeg then none else (f_X5_occurs N σ (xs ((i + 1)).toNatClampNeg) (xs ((i + 2)).toNatClampNeg)).bind (fun q2 => (f_X5_thrown N q2.2 ).bind (fun q3 => if q3.1 = q1.1 then if q1.1 = 0 then if q2.1 = 0 then if (lg_cmp (q1.2.2 (Int32.toNatClampNeg 0)) 0) = 0 then K (i + 4) q1.2.1 q1.2.2 q3.2 else some (0 : Int32) else if (lg_cmp (q1.2.2 (Int32.toNatClampNeg 0)) 1) = 0 then K (i + 4) q1.2.1 q1.2.2 q3.2 else some (0 : Int32) else K (i + 4) q1.2.1 q1.2.2 q3.2 else some (0 : Int32))))
set_option maxHeartbeats 4000000 in
set_option maxRecDepth 100000 in
theorem k_law_18 {p : Program} {l : Launch} {e : Env} {s : State} {m : MethodId} {below : List Frame} {meth : Method} {c : Code} {D : va_G} {cI cZ cJ : ClassId} {sa : Nat → Nat} {a4 a2 a1 a3 a0 a5 : Nat → Nat} {ao b L : Nat} {xs : Nat → Int32} (C0 : lC p l s m meth c b L xs D cI cZ cJ sa) (N : Nat) (n : Nat) (K : Int32 → S5 → (Nat → Int64) → St → Option Int32) (hk : KPl p l e s m below meth c D cI cZ cJ a4 a2 a1 a3 a0 a5 ao b n K 23) : KPl p l e s m below meth c D cI cZ cJ a4 a2 a1 a3 a0 a5 ao b (n + 1) (g_law_18 N xs L K) 1362 := by
  obtain ⟨hx, hb, hr, hml, hown, hts, hX9, hbl, hlocks, hK3, hN, hXP, hC, hlt⟩ := id C0
  have hK : va_K D vwCl (kT cI cZ) s := hK3.sub [0, 1] rfl
  have hA : ∀ q : Nat, s.heap.size ≤ q → (fun q : Nat => s.heap.size ≤ q) q := fun _ h => h
  have hbA : ¬ (fun q : Nat => s.heap.size ≤ q) b := Nat.not_le.mpr hbl
  intro i u o σ cells slots H locs ls hc9 hs9 hP hD hS hl h
  unfold g_law_18 at h
  refine lv_aload_n hx hb dL_law_1362 rfl (lv_at hl 1 rfl) ?_
  refine lv_aload_n hx hb dL_law_1363 rfl (lv_at hl 0 rfl) ?_
  refine lv_iload hx hb dL_law_1364 (lv_at hl 4 rfl) ?_
  refine lv_iconst (v := 1) hx hb dL_law_1366 rfl ?_
  refine lv_iadd hx hb dL_law_1367 ?_
  by_cases hi : (i + 1) < 0 ∨ L ≤ ((i + 1)).toNatClampNeg
  · rw [if_pos hi] at h; exact no h
  rw [if_neg hi] at h
  refine va_sld hx hb hX9 hbl hbA hS (i := (i + 1)) hi dL_law_1368 ?_
  refine lv_aload_n hx hb dL_law_1369 rfl (lv_at hl 0 rfl) ?_
  refine lv_iload hx hb dL_law_1370 (lv_at hl 4 rfl) ?_
  refine lv_iconst (v := 2) hx hb dL_law_1372 rfl ?_
  refine lv_iadd hx hb dL_law_1373 ?_
  by_cases hi : (i + 2) < 0 ∨ L ≤ ((i + 2)).toNatClampNeg
  · rw [if_pos hi] at h; exact no h
  rw [if_neg hi] at h
  refine va_sld hx hb hX9 hbl hbA hS (i := (i + 2)) hi dL_law_1374 ?_
  refine lv_aload_n hx hb dL_law_1375 rfl (lv_at hl 3 rfl) ?_
  obtain ⟨q1, hq1, h⟩ := ob h
  refine mh_i (ws' := wLL a4 a2 a1 a3 a0 ao a5 cI cZ cJ ((q1.2.1, q1.2.2), σ)) (wr := wX5 a5 cI cZ σ) [0, 1, 2, 3, 4, 5, 6, 7, 8, 9, 10, 11, 12, 13, 14, 15, 16, 17, 18, 19, 20, 21, 22, 23, 24, 25, 26, 27, 28, 29] [30, 31, 32, 33, 34, 35, 36, 37, 38, 39, 40, 41, 42, 43, 44, 45, 46, 47, 48, 49, 50, 51, 52] [23, 24, 25, 26, 27, 28, 29, 30, 31, 32, 33, 34, 35, 36, 37, 38, 39, 40, 41, 42, 43, 44, 45, 46, 47, 48, 49, 50, 51, 52, 0, 1, 2, 3, 4, 5, 6, 7, 8, 9, 10, 11, 12, 13, 14, 15, 16, 17, 18, 19, 20, 21, 22] (vx_runSW (As := [.ref (a4 0), .int (xs ((i + 1)).toNatClampNeg), .int (xs ((i + 2)).toNatClampNeg), .ref (ao)]) (rest := []) ⟨hx, hb, hml, hown, hts⟩ (c_L_occurs l hlt D cI cZ cJ sa a4 a2 a1 a3 a0 ao N u.1 u.2.1 u.2.2.1 u.2.2.2.1 u.2.2.2.2 o (xs ((i + 1)).toNatClampNeg) (xs ((i + 2)).toNatClampNeg) q1.1 q1.2 hq1 H.size) (vx_cwSW 4 hts gL_law_L_occurs rfl rfl rfl (by decide +kernel) ⟨Nat.le_of_ble_eq_true rfl, Nat.le_of_ble_eq_true rfl⟩) (pLS [0, 1, 2, 3, 4, 5, 6, 7, 8, 9, 10, 11, 12, 13, 14, 15, 16, 17, 18, 19, 20, 21, 22, 23, 24, 25, 26, 27, 28, 29] hP hD hS hA hK3 hN hXP hC rfl rfl) rfl rfl hl.1 rfl (lv_room (Nat.le_of_ble_eq_true rfl)) dL_law_1376 ⟨by show cells + 3 ≤ 601024; omega, by show slots + 18 ≤ 7293034; omega⟩) hP hD hS hA rfl rfl rfl (by decide) rfl rfl (fun H locs hP hD hS => ?_)
  refine lv_istore (lv' := [(5, .int q1.1), (0, .ref (b)), (1, .ref (a4 0)), (2, .ref (a5 0)), (3, .ref (ao)), (4, .int i)]) hx hb dL_law_1379 hl (by decide) rfl (fun ls hl => ?_)
  refine lv_aload_n hx hb dL_law_1381 rfl (lv_at hl 3 rfl) ?_
  refine lv_aload_n hx hb dL_law_1382 rfl (lv_at hl 1 rfl) ?_
  refine lv_iload hx hb dL_law_1383 (lv_at hl 5 rfl) ?_
  refine lv_iconst (v := 1) hx hb dL_law_1385 rfl ?_
  refine lv_iadd hx hb dL_law_1386 ?_
  by_cases hi : (i + 1) < 0 ∨ L ≤ ((i + 1)).toNatClampNeg
  · rw [if_pos hi] at h; exact no h
  rw [if_neg hi] at h
  refine va_sld hx hb hX9 hbl hbA hS (i := (i + 1)) hi dL_law_1387 ?_
  refine lv_aload_n hx hb dL_law_1388 rfl (lv_at hl 1 rfl) ?_
  refine lv_iload hx hb dL_law_1389 (lv_at hl 5 rfl) ?_
  refine lv_iconst (v := 2) hx hb dL_law_1391 rfl ?_
  refine lv_iadd hx hb dL_law_1392 ?_
  by_cases hi : (i + 2) < 0 ∨ L ≤ ((i + 2)).toNatClampNeg
  · rw [if_pos hi] at h; exact no h
  rw [if_neg hi] at h
  refine va_sld hx hb hX9 hbl hbA hS (i := (i + 2)) hi dL_law_1393 ?_
  obtain ⟨q2, hq2, h⟩ := ob h
  refine mg_i (ws' := wLL a4 a2 a1 a3 a0 ao a5 cI cZ cJ ((q1.2.1, q1.2.2), q2.2)) (wr := wL4 a4 a2 a1 a3 a0 ao cI cZ cJ (q1.2.1, q1.2.2)) [30, 31, 32, 33, 34, 35, 36, 37, 38, 39, 40, 41, 42, 43, 44, 45, 46, 47, 48, 49, 50, 51, 52] [0, 1, 2, 3, 4, 5, 6, 7, 8, 9, 10, 11, 12, 13, 14, 15, 16, 17, 18, 19, 20, 21, 22, 23, 24, 25, 26, 27, 28, 29] [0, 1, 2, 3, 4, 5, 6, 7, 8, 9, 10, 11, 12, 13, 14, 15, 16, 17, 18, 19, 20, 21, 22, 23, 24, 25, 26, 27, 28, 29, 30, 31, 32, 33, 34, 35, 36, 37, 38, 39, 40, 41, 42, 43, 44, 45, 46, 47, 48, 49, 50, 51, 52] (va_runV (As := [.int (xs ((i + 1)).toNatClampNeg), .int (xs ((i + 2)).toNatClampNeg)]) (rest := []) ⟨hx, hb, hml, hown, hts⟩ (c_X5_occurs l D cI cZ a5 N σ (xs ((i + 1)).toNatClampNeg) (xs ((i + 2)).toNatClampNeg) q2.1 q2.2 hq2 H.size) (cwV 2 hts gL_law_X5_occurs rfl rfl rfl (by decide +kernel) ⟨Nat.le_of_ble_eq_true rfl, Nat.le_of_ble_eq_true rfl⟩) (pV [30, 31, 32, 33, 34, 35, 36, 37, 38, 39, 40, 41, 42, 43, 44, 45, 46, 47, 48, 49, 50, 51, 52] hP hD hK hN rfl rfl rfl rfl) rfl rfl hl.1 rfl (lv_room (Nat.le_of_ble_eq_true rfl)) dL_law_1394 ⟨by show cells + 3 + 0 ≤ 601024; omega, by show slots + 18 + 0 ≤ 7293034; omega⟩) hP hD hS hA rfl rfl rfl (by decide) rfl rfl (fun H locs hP hD hS => ?_)
  refine lv_istore (lv' := [(6, .int q2.1), (5, .int q1.1), (0, .ref (b)), (1, .ref (a4 0)), (2, .ref (a5 0)), (3, .ref (ao)), (4, .int i)]) hx hb dL_law_1397 hl (by decide) rfl (fun ls hl => ?_)
  refine lv_aload_n hx hb dL_law_1399 rfl (lv_at hl 4 rfl) ?_
  obtain ⟨q3, hq3, h⟩ := ob h
  refine mg_i (ws' := wLL a4 a2 a1 a3 a0 ao a5 cI cZ cJ ((q1.2.1, q1.2.2), q3.2)) (wr := wL4 a4 a2 a1 a3 a0 ao cI cZ cJ (q1.2.1, q1.2.2)) [30, 31, 32, 33, 34, 35, 36, 37, 38, 39, 40, 41, 42, 43, 44, 45, 46, 47, 48, 49, 50, 51, 52] [0, 1, 2, 3, 4, 5, 6, 7, 8, 9, 10, 11, 12, 13, 14, 15, 16, 17, 18, 19, 20, 21, 22, 23, 24, 25, 26, 27, 28, 29] [0, 1, 2, 3, 4, 5, 6, 7, 8, 9, 10, 11, 12, 13, 14, 15, 16, 17, 18, 19, 20, 21, 22, 23, 24, 25, 26, 27, 28, 29, 30, 31, 32, 33, 34, 35, 36, 37, 38, 39, 40, 41, 42, 43, 44, 45, 46, 47, 48, 49, 50, 51, 52] (va_runV (As := []) (rest := []) ⟨hx, hb, hml, hown, hts⟩ (c_X5_thrown l D cI cZ a5 N q2.2  q3.1 q3.2 hq3 H.size) (cwV 0 hts gL_law_X5_thrown rfl rfl rfl (by decide +kernel) ⟨Nat.le_of_ble_eq_true rfl, Nat.le_of_ble_eq_true rfl⟩) (pV [30, 31, 32, 33, 34, 35, 36, 37, 38, 39, 40, 41, 42, 43, 44, 45, 46, 47, 48, 49, 50, 51, 52] hP hD hK hN rfl rfl rfl rfl) rfl rfl hl.1 rfl (lv_room (Nat.le_of_ble_eq_true rfl)) dL_law_1400 ⟨by show cells + 3 + 0 ≤ 601024; omega, by show slots + 18 + 0 ≤ 7293034; omega⟩) hP hD hS hA rfl rfl rfl (by decide) rfl rfl (fun H locs hP hD hS => ?_)
  refine lv_iload hx hb dL_law_1403 (lv_at hl 1 rfl) ?_
  refine lv_icmp_eq (tgt := 1410) hx hb dL_law_1405 (by decide) (fun hc4 => ?_) (fun hc4 => ?_)
  · rw [if_pos hc4] at h
    refine lv_iload hx hb dL_law_1410 (lv_at hl 1 rfl) ?_
    refine lv_if_ne (tgt := 1434) hx hb dL_law_1412 (by decide) (fun hc5 => ?_) (fun hc5 => ?_)
    · rw [if_neg hc5] at h
      refine lv_goto (tgt := 1561) hx hb dL_law_1434 (by decide) ?_
      refine lv_iinc (v := (i + 4)) (lv' := [(4, .int (i + 4)), (6, .int q2.1), (5, .int q1.1), (0, .ref (b)), (1, .ref (a4 0)), (2, .ref (a5 0)), (3, .ref (ao))]) hx hb dL_law_1561 hl (k := 6) rfl rfl (by decide) rfl (fun ls hl => ?_)
      refine lv_goto (tgt := 23) hx hb dL_law_1564 (by decide) ?_
      refine W.widen (k := cells + 5) (n := slots + 30) (by omega) (by omega) ?_
      exact hk (i + 4) q1.2.1 q1.2.2 q3.2 _ _ _ _ _ (by omega) (by omega) hP hD hS (lv_sub hl [3, 4, 5, 6, 0] rfl) h
    · rw [if_pos hc5] at h
      refine lv_aload_n hx hb dL_law_1415 rfl (lv_at hl 5 rfl) ?_
      refine lv_iconst (v := 0) hx hb dL_law_1416 rfl ?_
      refine va_lald (f := q1.2.2) hx hb hK3 hP 29 2 rfl rfl (i := 0) (by unfold vp_in; decide) dL_law_1417 ?_
      refine lv_iload hx hb dL_law_1418 (lv_at hl 0 rfl) ?_
      refine lv_if_eq (tgt := 1427) hx hb dL_law_1420 (by decide) (fun hc6 => ?_) (fun hc6 => ?_)
      · rw [if_pos hc6] at h
        refine lv_lconst (v := 0) hx hb dL_law_1427 rfl ?_
        refine W.lcmp hx hb dL_law_1428 ?_
        refine lv_if_eq (tgt := 1434) hx hb dL_law_1429 (by decide) (fun hc7 => ?_) (fun hc7 => ?_)
        · rw [if_pos hc7] at h
          refine lv_goto (tgt := 1561) hx hb dL_law_1434 (by decide) ?_
          refine lv_iinc (v := (i + 4)) (lv' := [(4, .int (i + 4)), (6, .int q2.1), (5, .int q1.1), (0, .ref (b)), (1, .ref (a4 0)), (2, .ref (a5 0)), (3, .ref (ao))]) hx hb dL_law_1561 hl (k := 6) rfl rfl (by decide) rfl (fun ls hl => ?_)
          refine lv_goto (tgt := 23) hx hb dL_law_1564 (by decide) ?_
          refine W.widen (k := cells + 5) (n := slots + 30) (by omega) (by omega) ?_
          exact hk (i + 4) q1.2.1 q1.2.2 q3.2 _ _ _ _ _ (by omega) (by omega) hP hD hS (lv_sub hl [3, 4, 5, 6, 0] rfl) h
        · rw [if_neg hc7] at h
          refine lv_iconst (v := 0) hx hb dL_law_1432 rfl ?_
          exact absurd (Option.some.inj h) (by decide)
      · rw [if_neg hc6] at h
        refine lv_lconst (v := 1) hx hb dL_law_1423 rfl ?_
        refine lv_goto (tgt := 1428) hx hb dL_law_1424 (by decide) ?_
        refine W.lcmp hx hb dL_law_1428 ?_
        refine lv_if_eq (tgt := 1434) hx hb dL_law_1429 (by decide) (fun hc8 => ?_) (fun hc8 => ?_)
        · rw [if_pos hc8] at h
          refine lv_goto (tgt := 1561) hx hb dL_law_1434 (by decide) ?_
          refine lv_iinc (v := (i + 4)) (lv' := [(4, .int (i + 4)), (6, .int q2.1), (5, .int q1.1), (0, .ref (b)), (1, .ref (a4 0)), (2, .ref (a5 0)), (3, .ref (ao))]) hx hb dL_law_1561 hl (k := 6) rfl rfl (by decide) rfl (fun ls hl => ?_)
          refine lv_goto (tgt := 23) hx hb dL_law_1564 (by decide) ?_
          refine W.widen (k := cells + 5) (n := slots + 30) (by omega) (by omega) ?_
          exact hk (i + 4) q1.2.1 q1.2.2 q3.2 _ _ _ _ _ (by omega) (by omega) hP hD hS (lv_sub hl [3, 4, 5, 6, 0] rfl) h
        · rw [if_neg hc8] at h
          refine lv_iconst (v := 0) hx hb dL_law_1432 rfl ?_
          exact absurd (Option.some.inj h) (by decide)
  · rw [if_neg hc4] at h
    refine lv_iconst (v := 0) hx hb dL_law_1408 rfl ?_
    exact absurd (Option.some.inj h) (by decide)
def g_law_19 (N : Nat) (xs : Nat → Int32) (L : Nat) (K : Int32 → S5 → (Nat → Int64) → St → Option Int32) (i : Int32) (u : S5) (o : Nat → Int64) (σ : St) : Option Int32 := if (i + 1) < 0 ∨ L ≤ ((i + 1)).toNatClampNeg then none else if (i + 2) < 0 ∨ L ≤ ((i + 2)).toNatClampNeg then none else (f_L_match N u.1 u.2.1 u.2.2.1 u.2.2.2.1 u.2.2.2.2 o (xs ((i + 1)).toNatClampNeg) (xs ((i + 2)).toNatClampNeg)).bind (fun q1 => if (i + 1) < 0 ∨ L ≤ ((i + 1)).toNatClampNeg then none else if (i + 2) < 0 ∨ L ≤ ((i + 2)).toNatClampNeg then none else (f_X5_match N σ (xs ((i + 1)).toNatClampNeg) (xs ((i + 2)).toNatClampNeg)).bind (fun q2 => (f_X5_thrown N q2.2 ).bind (fun q3 => if q3.1 = q1.1 then if q1.1 = 0 then if (lg_cmp (q1.2.2 (Int32.toNatClampNeg 0)) (Int32.toInt64 q2.1)) = 0 then K (i + 4) q1.2.1 q1.2.2 q3.2 else some (0 : Int32) else K (i + 4) q1.2.1 q1.2.2 q3.2 else some (0 : Int32))))
set_option maxHeartbeats 4000000 in
set_option maxRecDepth 100000 in
theorem k_law_19 {p : Program} {l : Launch} {e : Env} {s : State} {m : MethodId} {below : List Frame} {meth : Method} {c : Code} {D : va_G} {cI cZ cJ : ClassId} {sa : Nat → Nat} {a4 a2 a1 a3 a0 a5 : Nat → Nat} {ao b L : Nat} {xs : Nat → Int32} (C0 : lC p l s m meth c b L xs D cI cZ cJ sa) (N : Nat) (n : Nat) (K : Int32 → S5 → (Nat → Int64) → St → Option Int32) (hk : KPl p l e s m below meth c D cI cZ cJ a4 a2 a1 a3 a0 a5 ao b n K 23) : KPl p l e s m below meth c D cI cZ cJ a4 a2 a1 a3 a0 a5 ao b (n + 1) (g_law_19 N xs L K) 1437 := by
  obtain ⟨hx, hb, hr, hml, hown, hts, hX9, hbl, hlocks, hK3, hN, hXP, hC, hlt⟩ := id C0
  have hK : va_K D vwCl (kT cI cZ) s := hK3.sub [0, 1] rfl
  have hA : ∀ q : Nat, s.heap.size ≤ q → (fun q : Nat => s.heap.size ≤ q) q := fun _ h => h
  have hbA : ¬ (fun q : Nat => s.heap.size ≤ q) b := Nat.not_le.mpr hbl
  intro i u o σ cells slots H locs ls hc9 hs9 hP hD hS hl h
  unfold g_law_19 at h
  refine lv_aload_n hx hb dL_law_1437 rfl (lv_at hl 1 rfl) ?_
  refine lv_aload_n hx hb dL_law_1438 rfl (lv_at hl 0 rfl) ?_
  refine lv_iload hx hb dL_law_1439 (lv_at hl 4 rfl) ?_
  refine lv_iconst (v := 1) hx hb dL_law_1441 rfl ?_
  refine lv_iadd hx hb dL_law_1442 ?_
  by_cases hi : (i + 1) < 0 ∨ L ≤ ((i + 1)).toNatClampNeg
  · rw [if_pos hi] at h; exact no h
  rw [if_neg hi] at h
  refine va_sld hx hb hX9 hbl hbA hS (i := (i + 1)) hi dL_law_1443 ?_
  refine lv_aload_n hx hb dL_law_1444 rfl (lv_at hl 0 rfl) ?_
  refine lv_iload hx hb dL_law_1445 (lv_at hl 4 rfl) ?_
  refine lv_iconst (v := 2) hx hb dL_law_1447 rfl ?_
  refine lv_iadd hx hb dL_law_1448 ?_
  by_cases hi : (i + 2) < 0 ∨ L ≤ ((i + 2)).toNatClampNeg
  · rw [if_pos hi] at h; exact no h
  rw [if_neg hi] at h
  refine va_sld hx hb hX9 hbl hbA hS (i := (i + 2)) hi dL_law_1449 ?_
  refine lv_aload_n hx hb dL_law_1450 rfl (lv_at hl 3 rfl) ?_
  obtain ⟨q1, hq1, h⟩ := ob h
  refine mh_i (ws' := wLL a4 a2 a1 a3 a0 ao a5 cI cZ cJ ((q1.2.1, q1.2.2), σ)) (wr := wX5 a5 cI cZ σ) [0, 1, 2, 3, 4, 5, 6, 7, 8, 9, 10, 11, 12, 13, 14, 15, 16, 17, 18, 19, 20, 21, 22, 23, 24, 25, 26, 27, 28, 29] [30, 31, 32, 33, 34, 35, 36, 37, 38, 39, 40, 41, 42, 43, 44, 45, 46, 47, 48, 49, 50, 51, 52] [23, 24, 25, 26, 27, 28, 29, 30, 31, 32, 33, 34, 35, 36, 37, 38, 39, 40, 41, 42, 43, 44, 45, 46, 47, 48, 49, 50, 51, 52, 0, 1, 2, 3, 4, 5, 6, 7, 8, 9, 10, 11, 12, 13, 14, 15, 16, 17, 18, 19, 20, 21, 22] (vx_runSW (As := [.ref (a4 0), .int (xs ((i + 1)).toNatClampNeg), .int (xs ((i + 2)).toNatClampNeg), .ref (ao)]) (rest := []) ⟨hx, hb, hml, hown, hts⟩ (c_L_match l hlt D cI cZ cJ sa a4 a2 a1 a3 a0 ao N u.1 u.2.1 u.2.2.1 u.2.2.2.1 u.2.2.2.2 o (xs ((i + 1)).toNatClampNeg) (xs ((i + 2)).toNatClampNeg) q1.1 q1.2 hq1 H.size) (vx_cwSW 4 hts gL_law_L_match rfl rfl rfl (by decide +kernel) ⟨Nat.le_of_ble_eq_true rfl, Nat.le_of_ble_eq_true rfl⟩) (pLS [0, 1, 2, 3, 4, 5, 6, 7, 8, 9, 10, 11, 12, 13, 14, 15, 16, 17, 18, 19, 20, 21, 22, 23, 24, 25, 26, 27, 28, 29] hP hD hS hA hK3 hN hXP hC rfl rfl) rfl rfl hl.1 rfl (lv_room (Nat.le_of_ble_eq_true rfl)) dL_law_1451 ⟨by show cells + 2 ≤ 601024; omega, by show slots + 12 ≤ 7293034; omega⟩) hP hD hS hA rfl rfl rfl (by decide) rfl rfl (fun H locs hP hD hS => ?_)
  refine lv_istore (lv' := [(5, .int q1.1), (0, .ref (b)), (1, .ref (a4 0)), (2, .ref (a5 0)), (3, .ref (ao)), (4, .int i)]) hx hb dL_law_1454 hl (by decide) rfl (fun ls hl => ?_)
  refine lv_aload_n hx hb dL_law_1456 rfl (lv_at hl 3 rfl) ?_
  refine lv_aload_n hx hb dL_law_1457 rfl (lv_at hl 1 rfl) ?_
  refine lv_iload hx hb dL_law_1458 (lv_at hl 5 rfl) ?_
  refine lv_iconst (v := 1) hx hb dL_law_1460 rfl ?_
  refine lv_iadd hx hb dL_law_1461 ?_
  by_cases hi : (i + 1) < 0 ∨ L ≤ ((i + 1)).toNatClampNeg
  · rw [if_pos hi] at h; exact no h
  rw [if_neg hi] at h
  refine va_sld hx hb hX9 hbl hbA hS (i := (i + 1)) hi dL_law_1462 ?_
  refine lv_aload_n hx hb dL_law_1463 rfl (lv_at hl 1 rfl) ?_
  refine lv_iload hx hb dL_law_1464 (lv_at hl 5 rfl) ?_
  refine lv_iconst (v := 2) hx hb dL_law_1466 rfl ?_
  refine lv_iadd hx hb dL_law_1467 ?_
  by_cases hi : (i + 2) < 0 ∨ L ≤ ((i + 2)).toNatClampNeg
  · rw [if_pos hi] at h; exact no h
  rw [if_neg hi] at h
  refine va_sld hx hb hX9 hbl hbA hS (i := (i + 2)) hi dL_law_1468 ?_
  obtain ⟨q2, hq2, h⟩ := ob h
  refine mg_i (ws' := wLL a4 a2 a1 a3 a0 ao a5 cI cZ cJ ((q1.2.1, q1.2.2), q2.2)) (wr := wL4 a4 a2 a1 a3 a0 ao cI cZ cJ (q1.2.1, q1.2.2)) [30, 31, 32, 33, 34, 35, 36, 37, 38, 39, 40, 41, 42, 43, 44, 45, 46, 47, 48, 49, 50, 51, 52] [0, 1, 2, 3, 4, 5, 6, 7, 8, 9, 10, 11, 12, 13, 14, 15, 16, 17, 18, 19, 20, 21, 22, 23, 24, 25, 26, 27, 28, 29] [0, 1, 2, 3, 4, 5, 6, 7, 8, 9, 10, 11, 12, 13, 14, 15, 16, 17, 18, 19, 20, 21, 22, 23, 24, 25, 26, 27, 28, 29, 30, 31, 32, 33, 34, 35, 36, 37, 38, 39, 40, 41, 42, 43, 44, 45, 46, 47, 48, 49, 50, 51, 52] (va_runV (As := [.int (xs ((i + 1)).toNatClampNeg), .int (xs ((i + 2)).toNatClampNeg)]) (rest := []) ⟨hx, hb, hml, hown, hts⟩ (c_X5_match l D cI cZ a5 N σ (xs ((i + 1)).toNatClampNeg) (xs ((i + 2)).toNatClampNeg) q2.1 q2.2 hq2 H.size) (cwV 2 hts gL_law_X5_match rfl rfl rfl (by decide +kernel) ⟨Nat.le_of_ble_eq_true rfl, Nat.le_of_ble_eq_true rfl⟩) (pV [30, 31, 32, 33, 34, 35, 36, 37, 38, 39, 40, 41, 42, 43, 44, 45, 46, 47, 48, 49, 50, 51, 52] hP hD hK hN rfl rfl rfl rfl) rfl rfl hl.1 rfl (lv_room (Nat.le_of_ble_eq_true rfl)) dL_law_1469 ⟨by show cells + 2 + 0 ≤ 601024; omega, by show slots + 12 + 0 ≤ 7293034; omega⟩) hP hD hS hA rfl rfl rfl (by decide) rfl rfl (fun H locs hP hD hS => ?_)
  refine lv_istore (lv' := [(6, .int q2.1), (5, .int q1.1), (0, .ref (b)), (1, .ref (a4 0)), (2, .ref (a5 0)), (3, .ref (ao)), (4, .int i)]) hx hb dL_law_1472 hl (by decide) rfl (fun ls hl => ?_)
  refine lv_aload_n hx hb dL_law_1474 rfl (lv_at hl 4 rfl) ?_
  obtain ⟨q3, hq3, h⟩ := ob h
  refine mg_i (ws' := wLL a4 a2 a1 a3 a0 ao a5 cI cZ cJ ((q1.2.1, q1.2.2), q3.2)) (wr := wL4 a4 a2 a1 a3 a0 ao cI cZ cJ (q1.2.1, q1.2.2)) [30, 31, 32, 33, 34, 35, 36, 37, 38, 39, 40, 41, 42, 43, 44, 45, 46, 47, 48, 49, 50, 51, 52] [0, 1, 2, 3, 4, 5, 6, 7, 8, 9, 10, 11, 12, 13, 14, 15, 16, 17, 18, 19, 20, 21, 22, 23, 24, 25, 26, 27, 28, 29] [0, 1, 2, 3, 4, 5, 6, 7, 8, 9, 10, 11, 12, 13, 14, 15, 16, 17, 18, 19, 20, 21, 22, 23, 24, 25, 26, 27, 28, 29, 30, 31, 32, 33, 34, 35, 36, 37, 38, 39, 40, 41, 42, 43, 44, 45, 46, 47, 48, 49, 50, 51, 52] (va_runV (As := []) (rest := []) ⟨hx, hb, hml, hown, hts⟩ (c_X5_thrown l D cI cZ a5 N q2.2  q3.1 q3.2 hq3 H.size) (cwV 0 hts gL_law_X5_thrown rfl rfl rfl (by decide +kernel) ⟨Nat.le_of_ble_eq_true rfl, Nat.le_of_ble_eq_true rfl⟩) (pV [30, 31, 32, 33, 34, 35, 36, 37, 38, 39, 40, 41, 42, 43, 44, 45, 46, 47, 48, 49, 50, 51, 52] hP hD hK hN rfl rfl rfl rfl) rfl rfl hl.1 rfl (lv_room (Nat.le_of_ble_eq_true rfl)) dL_law_1475 ⟨by show cells + 2 + 0 ≤ 601024; omega, by show slots + 12 + 0 ≤ 7293034; omega⟩) hP hD hS hA rfl rfl rfl (by decide) rfl rfl (fun H locs hP hD hS => ?_)
  refine lv_iload hx hb dL_law_1478 (lv_at hl 1 rfl) ?_
  refine lv_icmp_eq (tgt := 1485) hx hb dL_law_1480 (by decide) (fun hc4 => ?_) (fun hc4 => ?_)
  · rw [if_pos hc4] at h
    refine lv_iload hx hb dL_law_1485 (lv_at hl 1 rfl) ?_
    refine lv_if_ne (tgt := 1502) hx hb dL_law_1487 (by decide) (fun hc5 => ?_) (fun hc5 => ?_)
    · rw [if_neg hc5] at h
      refine lv_goto (tgt := 1561) hx hb dL_law_1502 (by decide) ?_
      refine lv_iinc (v := (i + 4)) (lv' := [(4, .int (i + 4)), (6, .int q2.1), (5, .int q1.1), (0, .ref (b)), (1, .ref (a4 0)), (2, .ref (a5 0)), (3, .ref (ao))]) hx hb dL_law_1561 hl (k := 6) rfl rfl (by decide) rfl (fun ls hl => ?_)
      refine lv_goto (tgt := 23) hx hb dL_law_1564 (by decide) ?_
      refine W.widen (k := cells + 5) (n := slots + 30) (by omega) (by omega) ?_
      exact hk (i + 4) q1.2.1 q1.2.2 q3.2 _ _ _ _ _ (by omega) (by omega) hP hD hS (lv_sub hl [3, 4, 5, 6, 0] rfl) h
    · rw [if_pos hc5] at h
      refine lv_aload_n hx hb dL_law_1490 rfl (lv_at hl 5 rfl) ?_
      refine lv_iconst (v := 0) hx hb dL_law_1491 rfl ?_
      refine va_lald (f := q1.2.2) hx hb hK3 hP 29 2 rfl rfl (i := 0) (by unfold vp_in; decide) dL_law_1492 ?_
      refine lv_iload hx hb dL_law_1493 (lv_at hl 0 rfl) ?_
      refine lv_i2l (v := Int32.toInt64 q2.1) hx hb dL_law_1495 rfl ?_
      refine W.lcmp hx hb dL_law_1496 ?_
      refine lv_if_eq (tgt := 1502) hx hb dL_law_1497 (by decide) (fun hc6 => ?_) (fun hc6 => ?_)
      · rw [if_pos hc6] at h
        refine lv_goto (tgt := 1561) hx hb dL_law_1502 (by decide) ?_
        refine lv_iinc (v := (i + 4)) (lv' := [(4, .int (i + 4)), (6, .int q2.1), (5, .int q1.1), (0, .ref (b)), (1, .ref (a4 0)), (2, .ref (a5 0)), (3, .ref (ao))]) hx hb dL_law_1561 hl (k := 6) rfl rfl (by decide) rfl (fun ls hl => ?_)
        refine lv_goto (tgt := 23) hx hb dL_law_1564 (by decide) ?_
        refine W.widen (k := cells + 5) (n := slots + 30) (by omega) (by omega) ?_
        exact hk (i + 4) q1.2.1 q1.2.2 q3.2 _ _ _ _ _ (by omega) (by omega) hP hD hS (lv_sub hl [3, 4, 5, 6, 0] rfl) h
      · rw [if_neg hc6] at h
        refine lv_iconst (v := 0) hx hb dL_law_1500 rfl ?_
        exact absurd (Option.some.inj h) (by decide)
  · rw [if_neg hc4] at h
    refine lv_iconst (v := 0) hx hb dL_law_1483 rfl ?_
    exact absurd (Option.some.inj h) (by decide)
