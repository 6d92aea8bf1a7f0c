def g_law_0 (N : Nat) (xs : Nat → Int32) (L : Nat) (K : Int32 → S5 → (Nat → Int64) → St → Option Int32) (i : Int32) (u : S5) (o : Nat → Int64) (σ : St) : Option Int32 := if (i + 1) < 0 ∨ L ≤ ((i + 1)).toNatClampNeg then none else (f_L_constructor N u.1 u.2.1 u.2.2.1 u.2.2.2.1 u.2.2.2.2 o (xs ((i + 1)).toNatClampNeg)).bind (fun q1 => if (i + 1) < 0 ∨ L ≤ ((i + 1)).toNatClampNeg then none else (f_X5_constructor N σ (xs ((i + 1)).toNatClampNeg)).bind (fun q2 => (f_X5_thrown N q2.2 ).bind (fun q3 => if q3.1 = q1.1 then if q1.1 = 0 then if (lg_cmp (q1.2.2 (Int32.toNatClampNeg 0)) (Int32.toInt64 q2.1)) = 0 then K (i + 4) q1.2.1 q1.2.2 q3.2 else some (0 : Int32) else K (i + 4) q1.2.1 q1.2.2 q3.2 else some (0 : Int32))))
set_option maxHeartbeats 4000000 in
set_option maxRecDepth 100000 in
theorem k_law_0 {p : Program} {l : Launch} {e : Env} {s : State} {m : MethodId} {below : List Frame} {meth : Method} {c : Code} {D : va_G} {cI cZ cJ : ClassId} {sa : Nat → Nat} {a4 a2 a1 a3 a0 a5 : Nat → Nat} {ao b L : Nat} {xs : Nat → Int32} (C0 : lC p l s m meth c b L xs D cI cZ cJ sa) (N : Nat) (n : Nat) (K : Int32 → S5 → (Nat → Int64) → St → Option Int32) (hk : KPl p l e s m below meth c D cI cZ cJ a4 a2 a1 a3 a0 a5 ao b n K 23) : KPl p l e s m below meth c D cI cZ cJ a4 a2 a1 a3 a0 a5 ao b (n + 1) (g_law_0 N xs L K) 136 := by
  obtain ⟨hx, hb, hr, hml, hown, hts, hX9, hbl, hlocks, hK3, hN, hXP, hC, hlt⟩ := id C0
  have hK : va_K D vwCl (kT cI cZ) s := hK3.sub [0, 1] rfl
  have hA : ∀ q : Nat, s.heap.size ≤ q → (fun q : Nat => s.heap.size ≤ q) q := fun _ h => h
  have hbA : ¬ (fun q : Nat => s.heap.size ≤ q) b := Nat.not_le.mpr hbl
  intro i u o σ cells slots H locs ls hc9 hs9 hP hD hS hl h
  unfold g_law_0 at h
  refine lv_aload_n hx hb dL_law_136 rfl (lv_at hl 1 rfl) ?_
  refine lv_aload_n hx hb dL_law_137 rfl (lv_at hl 0 rfl) ?_
  refine lv_iload hx hb dL_law_138 (lv_at hl 4 rfl) ?_
  refine lv_iconst (v := 1) hx hb dL_law_140 rfl ?_
  refine lv_iadd hx hb dL_law_141 ?_
  by_cases hi : (i + 1) < 0 ∨ L ≤ ((i + 1)).toNatClampNeg
  · rw [if_pos hi] at h; exact no h
  rw [if_neg hi] at h
  refine va_sld hx hb hX9 hbl hbA hS (i := (i + 1)) hi dL_law_142 ?_
  refine lv_aload_n hx hb dL_law_143 rfl (lv_at hl 3 rfl) ?_
  obtain ⟨q1, hq1, h⟩ := ob h
  refine mh_i (ws' := wLL a4 a2 a1 a3 a0 ao a5 cI cZ cJ ((q1.2.1, q1.2.2), σ)) (wr := wX5 a5 cI cZ σ) [0, 1, 2, 3, 4, 5, 6, 7, 8, 9, 10, 11, 12, 13, 14, 15, 16, 17, 18, 19, 20, 21, 22, 23, 24, 25, 26, 27, 28, 29] [30, 31, 32, 33, 34, 35, 36, 37, 38, 39, 40, 41, 42, 43, 44, 45, 46, 47, 48, 49, 50, 51, 52] [23, 24, 25, 26, 27, 28, 29, 30, 31, 32, 33, 34, 35, 36, 37, 38, 39, 40, 41, 42, 43, 44, 45, 46, 47, 48, 49, 50, 51, 52, 0, 1, 2, 3, 4, 5, 6, 7, 8, 9, 10, 11, 12, 13, 14, 15, 16, 17, 18, 19, 20, 21, 22] (vx_runSW (As := [.ref (a4 0), .int (xs ((i + 1)).toNatClampNeg), .ref (ao)]) (rest := []) ⟨hx, hb, hml, hown, hts⟩ (c_L_constructor l hlt D cI cZ cJ sa a4 a2 a1 a3 a0 ao N u.1 u.2.1 u.2.2.1 u.2.2.2.1 u.2.2.2.2 o (xs ((i + 1)).toNatClampNeg) q1.1 q1.2 hq1 H.size) (vx_cwSW 3 hts gL_law_L_constructor rfl rfl rfl (by decide +kernel) ⟨Nat.le_of_ble_eq_true rfl, Nat.le_of_ble_eq_true rfl⟩) (pLS [0, 1, 2, 3, 4, 5, 6, 7, 8, 9, 10, 11, 12, 13, 14, 15, 16, 17, 18, 19, 20, 21, 22, 23, 24, 25, 26, 27, 28, 29] hP hD hS hA hK3 hN hXP hC rfl rfl) rfl rfl hl.1 rfl (lv_room (Nat.le_of_ble_eq_true rfl)) dL_law_144 ⟨by show cells + 1 ≤ 601024; omega, by show slots + 6 ≤ 7293034; omega⟩) hP hD hS hA rfl rfl rfl (by decide) rfl rfl (fun H locs hP hD hS => ?_)
  refine lv_istore (lv' := [(5, .int q1.1), (0, .ref (b)), (1, .ref (a4 0)), (2, .ref (a5 0)), (3, .ref (ao)), (4, .int i)]) hx hb dL_law_147 hl (by decide) rfl (fun ls hl => ?_)
  refine lv_aload_n hx hb dL_law_149 rfl (lv_at hl 3 rfl) ?_
  refine lv_aload_n hx hb dL_law_150 rfl (lv_at hl 1 rfl) ?_
  refine lv_iload hx hb dL_law_151 (lv_at hl 5 rfl) ?_
  refine lv_iconst (v := 1) hx hb dL_law_153 rfl ?_
  refine lv_iadd hx hb dL_law_154 ?_
  by_cases hi : (i + 1) < 0 ∨ L ≤ ((i + 1)).toNatClampNeg
  · rw [if_pos hi] at h; exact no h
  rw [if_neg hi] at h
  refine va_sld hx hb hX9 hbl hbA hS (i := (i + 1)) hi dL_law_155 ?_
  obtain ⟨q2, hq2, h⟩ := ob h
  refine mg_i (ws' := wLL a4 a2 a1 a3 a0 ao a5 cI cZ cJ ((q1.2.1, q1.2.2), q2.2)) (wr := wL4 a4 a2 a1 a3 a0 ao cI cZ cJ (q1.2.1, q1.2.2)) [30, 31, 32, 33, 34, 35, 36, 37, 38, 39, 40, 41, 42, 43, 44, 45, 46, 47, 48, 49, 50, 51, 52] [0, 1, 2, 3, 4, 5, 6, 7, 8, 9, 10, 11, 12, 13, 14, 15, 16, 17, 18, 19, 20, 21, 22, 23, 24, 25, 26, 27, 28, 29] [0, 1, 2, 3, 4, 5, 6, 7, 8, 9, 10, 11, 12, 13, 14, 15, 16, 17, 18, 19, 20, 21, 22, 23, 24, 25, 26, 27, 28, 29, 30, 31, 32, 33, 34, 35, 36, 37, 38, 39, 40, 41, 42, 43, 44, 45, 46, 47, 48, 49, 50, 51, 52] (va_runV (As := [.int (xs ((i + 1)).toNatClampNeg)]) (rest := []) ⟨hx, hb, hml, hown, hts⟩ (c_X5_constructor l D cI cZ a5 N σ (xs ((i + 1)).toNatClampNeg) q2.1 q2.2 hq2 H.size) (cwV 1 hts gL_law_X5_constructor rfl rfl rfl (by decide +kernel) ⟨Nat.le_of_ble_eq_true rfl, Nat.le_of_ble_eq_true rfl⟩) (pV [30, 31, 32, 33, 34, 35, 36, 37, 38, 39, 40, 41, 42, 43, 44, 45, 46, 47, 48, 49, 50, 51, 52] hP hD hK hN rfl rfl rfl rfl) rfl rfl hl.1 rfl (lv_room (Nat.le_of_ble_eq_true rfl)) dL_law_156 ⟨by show cells + 1 + 0 ≤ 601024; omega, by show slots + 6 + 0 ≤ 7293034; omega⟩) hP hD hS hA rfl rfl rfl (by decide) rfl rfl (fun H locs hP hD hS => ?_)
  refine lv_istore (lv' := [(6, .int q2.1), (5, .int q1.1), (0, .ref (b)), (1, .ref (a4 0)), (2, .ref (a5 0)), (3, .ref (ao)), (4, .int i)]) hx hb dL_law_159 hl (by decide) rfl (fun ls hl => ?_)
  refine lv_aload_n hx hb dL_law_161 rfl (lv_at hl 4 rfl) ?_
  obtain ⟨q3, hq3, h⟩ := ob h
  refine mg_i (ws' := wLL a4 a2 a1 a3 a0 ao a5 cI cZ cJ ((q1.2.1, q1.2.2), q3.2)) (wr := wL4 a4 a2 a1 a3 a0 ao cI cZ cJ (q1.2.1, q1.2.2)) [30, 31, 32, 33, 34, 35, 36, 37, 38, 39, 40, 41, 42, 43, 44, 45, 46, 47, 48, 49, 50, 51, 52] [0, 1, 2, 3, 4, 5, 6, 7, 8, 9, 10, 11, 12, 13, 14, 15, 16, 17, 18, 19, 20, 21, 22, 23, 24, 25, 26, 27, 28, 29] [0, 1, 2, 3, 4, 5, 6, 7, 8, 9, 10, 11, 12, 13, 14, 15, 16, 17, 18, 19, 20, 21, 22, 23, 24, 25, 26, 27, 28, 29, 30, 31, 32, 33, 34, 35, 36, 37, 38, 39, 40, 41, 42, 43, 44, 45, 46, 47, 48, 49, 50, 51, 52] (va_runV (As := []) (rest := []) ⟨hx, hb, hml, hown, hts⟩ (c_X5_thrown l D cI cZ a5 N q2.2  q3.1 q3.2 hq3 H.size) (cwV 0 hts gL_law_X5_thrown rfl rfl rfl (by decide +kernel) ⟨Nat.le_of_ble_eq_true rfl, Nat.le_of_ble_eq_true rfl⟩) (pV [30, 31, 32, 33, 34, 35, 36, 37, 38, 39, 40, 41, 42, 43, 44, 45, 46, 47, 48, 49, 50, 51, 52] hP hD hK hN rfl rfl rfl rfl) rfl rfl hl.1 rfl (lv_room (Nat.le_of_ble_eq_true rfl)) dL_law_162 ⟨by show cells + 1 + 0 ≤ 601024; omega, by show slots + 6 + 0 ≤ 7293034; omega⟩) hP hD hS hA rfl rfl rfl (by decide) rfl rfl (fun H locs hP hD hS => ?_)
  refine lv_iload hx hb dL_law_165 (lv_at hl 1 rfl) ?_
  refine lv_icmp_eq (tgt := 172) hx hb dL_law_167 (by decide) (fun hc4 => ?_) (fun hc4 => ?_)
  · rw [if_pos hc4] at h
    refine lv_iload hx hb dL_law_172 (lv_at hl 1 rfl) ?_
    refine lv_if_ne (tgt := 189) hx hb dL_law_174 (by decide) (fun hc5 => ?_) (fun hc5 => ?_)
    · rw [if_neg hc5] at h
      refine lv_goto (tgt := 1561) hx hb dL_law_189 (by decide) ?_
      refine lv_iinc (v := (i + 4)) (lv' := [(4, .int (i + 4)), (6, .int q2.1), (5, .int q1.1), (0, .ref (b)), (1, .ref (a4 0)), (2, .ref (a5 0)), (3, .ref (ao))]) hx hb dL_law_1561 hl (k := 6) rfl rfl (by decide) rfl (fun ls hl => ?_)
      refine lv_goto (tgt := 23) hx hb dL_law_1564 (by decide) ?_
      refine W.widen (k := cells + 5) (n := slots + 30) (by omega) (by omega) ?_
      exact hk (i + 4) q1.2.1 q1.2.2 q3.2 _ _ _ _ _ (by omega) (by omega) hP hD hS (lv_sub hl [3, 4, 5, 6, 0] rfl) h
    · rw [if_pos hc5] at h
      refine lv_aload_n hx hb dL_law_177 rfl (lv_at hl 5 rfl) ?_
      refine lv_iconst (v := 0) hx hb dL_law_178 rfl ?_
      refine va_lald (f := q1.2.2) hx hb hK3 hP 29 2 rfl rfl (i := 0) (by unfold vp_in; decide) dL_law_179 ?_
      refine lv_iload hx hb dL_law_180 (lv_at hl 0 rfl) ?_
      refine lv_i2l (v := Int32.toInt64 q2.1) hx hb dL_law_182 rfl ?_
      refine W.lcmp hx hb dL_law_183 ?_
      refine lv_if_eq (tgt := 189) hx hb dL_law_184 (by decide) (fun hc6 => ?_) (fun hc6 => ?_)
      · rw [if_pos hc6] at h
        refine lv_goto (tgt := 1561) hx hb dL_law_189 (by decide) ?_
        refine lv_iinc (v := (i + 4)) (lv' := [(4, .int (i + 4)), (6, .int q2.1), (5, .int q1.1), (0, .ref (b)), (1, .ref (a4 0)), (2, .ref (a5 0)), (3, .ref (ao))]) hx hb dL_law_1561 hl (k := 6) rfl rfl (by decide) rfl (fun ls hl => ?_)
        refine lv_goto (tgt := 23) hx hb dL_law_1564 (by decide) ?_
        refine W.widen (k := cells + 5) (n := slots + 30) (by omega) (by omega) ?_
        exact hk (i + 4) q1.2.1 q1.2.2 q3.2 _ _ _ _ _ (by omega) (by omega) hP hD hS (lv_sub hl [3, 4, 5, 6, 0] rfl) h
      · rw [if_neg hc6] at h
        refine lv_iconst (v := 0) hx hb dL_law_187 rfl ?_
        exact absurd (Option.some.inj h) (by decide)
  · rw [if_neg hc4] at h
    refine lv_iconst (v := 0) hx hb dL_law_170 rfl ?_
    exact absurd (Option.some.inj h) (by decide)
def g_law_1 (N : Nat) (xs : Nat → Int32) (L : Nat) (K : Int32 → S5 → (Nat → Int64) → St → Option Int32) (i : Int32) (u : S5) (o : Nat → Int64) (σ : St) : Option Int32 := if (i + 1) < 0 ∨ L ≤ ((i + 1)).toNatClampNeg then none else (f_L_typeVariable N u.1 u.2.1 u.2.2.1 u.2.2.2.1 u.2.2.2.2 o (xs ((i + 1)).toNatClampNeg)).bind (fun q1 => if (i + 1) < 0 ∨ L ≤ ((i + 1)).toNatClampNeg then none else (f_X5_typeVariable N σ (xs ((i + 1)).toNatClampNeg)).bind (fun q2 => (f_X5_thrown N q2.2 ).bind (fun q3 => if q3.1 = q1.1 then if q1.1 = 0 then if (lg_cmp (q1.2.2 (Int32.toNatClampNeg 0)) (Int32.toInt64 q2.1)) = 0 then K (i + 4) q1.2.1 q1.2.2 q3.2 else some (0 : Int32) else K (i + 4) q1.2.1 q1.2.2 q3.2 else some (0 : Int32))))
set_option maxHeartbeats 4000000 in
set_option maxRecDepth 100000 in
theorem k_law_1 {p : Program} {l : Launch} {e : Env} {s : State} {m : MethodId} {below : List Frame} {meth : Method} {c : Code} {D : va_G} {cI cZ cJ : ClassId} {sa : Nat → Nat} {a4 a2 a1 a3 a0 a5 : Nat → Nat} {ao b L : Nat} {xs : Nat → Int32} (C0 : lC p l s m meth c b L xs D cI cZ cJ sa) (N : Nat) (n : Nat) (K : Int32 → S5 → (Nat → Int64) → St → Option Int32) (hk : KPl p l e s m below meth c D cI cZ cJ a4 a2 a1 a3 a0 a5 ao b n K 23) : KPl p l e s m below meth c D cI cZ cJ a4 a2 a1 a3 a0 a5 ao b (n + 1) (g_law_1 N xs L K) 192 := by
  obtain ⟨hx, hb, hr, hml, hown, hts, hX9, hbl, hlocks, hK3, hN, hXP, hC, hlt⟩ := id C0
  have hK : va_K D vwCl (kT cI cZ) s := hK3.sub [0, 1] rfl
  have hA : ∀ q : Nat, s.heap.size ≤ q → (fun q : Nat => s.heap.size ≤ q) q := fun _ h => h
  have hbA : ¬ (fun q : Nat => s.heap.size ≤ q) b := Nat.not_le.mpr hbl
  intro i u o σ cells slots H locs ls hc9 hs9 hP hD hS hl h
  unfold g_law_1 at h
  refine lv_aload_n hx hb dL_law_192 rfl (lv_at hl 1 rfl) ?_
  refine lv_aload_n hx hb dL_law_193 rfl (lv_at hl 0 rfl) ?_
  refine lv_iload hx hb dL_law_194 (lv_at hl 4 rfl) ?_
  refine lv_iconst (v := 1) hx hb dL_law_196 rfl ?_
  refine lv_iadd hx hb dL_law_197 ?_
  by_cases hi : (i + 1) < 0 ∨ L ≤ ((i + 1)).toNatClampNeg
  · rw [if_pos hi] at h; exact no h
  rw [if_neg hi] at h
  refine va_sld hx hb hX9 hbl hbA hS (i := (i + 1)) hi dL_law_198 ?_
  refine lv_aload_n hx hb dL_law_199 rfl (lv_at hl 3 rfl) ?_
  obtain ⟨q1, hq1, h⟩ := ob h
  refine mh_i (ws' := wLL a4 a2 a1 a3 a0 ao a5 cI cZ cJ ((q1.2.1, q1.2.2), σ)) (wr := wX5 a5 cI cZ σ) [0, 1, 2, 3, 4, 5, 6, 7, 8, 9, 10, 11, 12, 13, 14, 15, 16, 17, 18, 19, 20, 21, 22, 23, 24, 25, 26, 27, 28, 29] [30, 31, 32, 33, 34, 35, 36, 37, 38, 39, 40, 41, 42, 43, 44, 45, 46, 47, 48, 49, 50, 51, 52] [23, 24, 25, 26, 27, 28, 29, 30, 31, 32, 33, 34, 35, 36, 37, 38, 39, 40, 41, 42, 43, 44, 45, 46, 47, 48, 49, 50, 51, 52, 0, 1, 2, 3, 4, 5, 6, 7, 8, 9, 10, 11, 12, 13, 14, 15, 16, 17, 18, 19, 20, 21, 22] (vx_runSW (As := [.ref (a4 0), .int (xs ((i + 1)).toNatClampNeg), .ref (ao)]) (rest := []) ⟨hx, hb, hml, hown, hts⟩ (c_L_typeVariable l hlt D cI cZ cJ sa a4 a2 a1 a3 a0 ao N u.1 u.2.1 u.2.2.1 u.2.2.2.1 u.2.2.2.2 o (xs ((i + 1)).toNatClampNeg) q1.1 q1.2 hq1 H.size) (vx_cwSW 3 hts gL_law_L_typeVariable rfl rfl rfl (by decide +kernel) ⟨Nat.le_of_ble_eq_true rfl, Nat.le_of_ble_eq_true rfl⟩) (pLS [0, 1, 2, 3, 4, 5, 6, 7, 8, 9, 10, 11, 12, 13, 14, 15, 16, 17, 18, 19, 20, 21, 22, 23, 24, 25, 26, 27, 28, 29] hP hD hS hA hK3 hN hXP hC rfl rfl) rfl rfl hl.1 rfl (lv_room (Nat.le_of_ble_eq_true rfl)) dL_law_200 ⟨by show cells + 2 ≤ 601024; omega, by show slots + 12 ≤ 7293034; omega⟩) hP hD hS hA rfl rfl rfl (by decide) rfl rfl (fun H locs hP hD hS => ?_)
  refine lv_istore (lv' := [(5, .int q1.1), (0, .ref (b)), (1, .ref (a4 0)), (2, .ref (a5 0)), (3, .ref (ao)), (4, .int i)]) hx hb dL_law_203 hl (by decide) rfl (fun ls hl => ?_)
  refine lv_aload_n hx hb dL_law_205 rfl (lv_at hl 3 rfl) ?_
  refine lv_aload_n hx hb dL_law_206 rfl (lv_at hl 1 rfl) ?_
  refine lv_iload hx hb dL_law_207 (lv_at hl 5 rfl) ?_
  refine lv_iconst (v := 1) hx hb dL_law_209 rfl ?_
  refine lv_iadd hx hb dL_law_210 ?_
  by_cases hi : (i + 1) < 0 ∨ L ≤ ((i + 1)).toNatClampNeg
  · rw [if_pos hi] at h; exact no h
  rw [if_neg hi] at h
  refine va_sld hx hb hX9 hbl hbA hS (i := (i + 1)) hi dL_law_211 ?_
  obtain ⟨q2, hq2, h⟩ := ob h
  refine mg_i (ws' := wLL a4 a2 a1 a3 a0 ao a5 cI cZ cJ ((q1.2.1, q1.2.2), q2.2)) (wr := wL4 a4 a2 a1 a3 a0 ao cI cZ cJ (q1.2.1, q1.2.2)) [30, 31, 32, 33, 34, 35, 36, 37, 38, 39, 40, 41, 42, 43, 44, 45, 46, 47, 48, 49, 50, 51, 52] [0, 1, 2, 3, 4, 5, 6, 7, 8, 9, 10, 11, 12, 13, 14, 15, 16, 17, 18, 19, 20, 21, 22, 23, 24, 25, 26, 27, 28, 29] [0, 1, 2, 3, 4, 5, 6, 7, 8, 9, 10, 11, 12, 13, 14, 15, 16, 17, 18, 19, 20, 21, 22, 23, 24, 25, 26, 27, 28, 29, 30, 31, 32, 33, 34, 35, 36, 37, 38, 39, 40, 41, 42, 43, 44, 45, 46, 47, 48, 49, 50, 51, 52] (va_runV (As := [.int (xs ((i + 1)).toNatClampNeg)]) (rest := []) ⟨hx, hb, hml, hown, hts⟩ (c_X5_typeVariable l D cI cZ a5 N σ (xs ((i + 1)).toNatClampNeg) q2.1 q2.2 hq2 H.size) (cwV 1 hts gL_law_X5_typeVariable rfl rfl rfl (by decide +kernel) ⟨Nat.le_of_ble_eq_true rfl, Nat.le_of_ble_eq_true rfl⟩) (pV [30, 31, 32, 33, 34, 35, 36, 37, 38, 39, 40, 41, 42, 43, 44, 45, 46, 47, 48, 49, 50, 51, 52] hP hD hK hN rfl rfl rfl rfl) rfl rfl hl.1 rfl (lv_room (Nat.le_of_ble_eq_true rfl)) dL_law_212 ⟨by show cells + 2 + 0 ≤ 601024; omega, by show slots + 12 + 0 ≤ 7293034; omega⟩) hP hD hS hA rfl rfl rfl (by decide) rfl rfl (fun H locs hP hD hS => ?_)
  refine lv_istore (lv' := [(6, .int q2.1), (5, .int q1.1), (0, .ref (b)), (1, .ref (a4 0)), (2, .ref (a5 0)), (3, .ref (ao)), (4, .int i)]) hx hb dL_law_215 hl (by decide) rfl (fun ls hl => ?_)
  refine lv_aload_n hx hb dL_law_217 rfl (lv_at hl 4 rfl) ?_
  obtain ⟨q3, hq3, h⟩ := ob h
  refine mg_i (ws' := wLL a4 a2 a1 a3 a0 ao a5 cI cZ cJ ((q1.2.1, q1.2.2), q3.2)) (wr := wL4 a4 a2 a1 a3 a0 ao cI cZ cJ (q1.2.1, q1.2.2)) [30, 31, 32, 33, 34, 35, 36, 37, 38, 39, 40, 41, 42, 43, 44, 45, 46, 47, 48, 49, 50, 51, 52] [0, 1, 2, 3, 4, 5, 6, 7, 8, 9, 10, 11, 12, 13, 14, 15, 16, 17, 18, 19, 20, 21, 22, 23, 24, 25, 26, 27, 28, 29] [0, 1, 2, 3, 4, 5, 6, 7, 8, 9, 10, 11, 12, 13, 14, 15, 16, 17, 18, 19, 20, 21, 22, 23, 24, 25, 26, 27, 28, 29, 30, 31, 32, 33, 34, 35, 36, 37, 38, 39, 40, 41, 42, 43, 44, 45, 46, 47, 48, 49, 50, 51, 52] (va_runV (As := []) (rest := []) ⟨hx, hb, hml, hown, hts⟩ (c_X5_thrown l D cI cZ a5 N q2.2  q3.1 q3.2 hq3 H.size) (cwV 0 hts gL_law_X5_thrown rfl rfl rfl (by decide +kernel) ⟨Nat.le_of_ble_eq_true rfl, Nat.le_of_ble_eq_true rfl⟩) (pV [30, 31, 32, 33, 34, 35, 36, 37, 38, 39, 40, 41, 42, 43, 44, 45, 46, 47, 48, 49, 50, 51, 52] hP hD hK hN rfl rfl rfl rfl) rfl rfl hl.1 rfl (lv_room (Nat.le_of_ble_eq_true rfl)) dL_law_218 ⟨by show cells + 2 + 0 ≤ 601024; omega, by show slots + 12 + 0 ≤ 7293034; omega⟩) hP hD hS hA rfl rfl rfl (by decide) rfl rfl (fun H locs hP hD hS => ?_)
  refine lv_iload hx hb dL_law_221 (lv_at hl 1 rfl) ?_
  refine lv_icmp_eq (tgt := 228) hx hb dL_law_223 (by decide) (fun hc4 => ?_) (fun hc4 => ?_)
  · rw [if_pos hc4] at h
    refine lv_iload hx hb dL_law_228 (lv_at hl 1 rfl) ?_
    refine lv_if_ne (tgt := 245) hx hb dL_law_230 (by decide) (fun hc5 => ?_) (fun hc5 => ?_)
    · rw [if_neg hc5] at h
      refine lv_goto (tgt := 1561) hx hb dL_law_245 (by decide) ?_
      refine lv_iinc (v := (i + 4)) (lv' := [(4, .int (i + 4)), (6, .int q2.1), (5, .int q1.1), (0, .ref (b)), (1, .ref (a4 0)), (2, .ref (a5 0)), (3, .ref (ao))]) hx hb dL_law_1561 hl (k := 6) rfl rfl (by decide) rfl (fun ls hl => ?_)
      refine lv_goto (tgt := 23) hx hb dL_law_1564 (by decide) ?_
      refine W.widen (k := cells + 5) (n := slots + 30) (by omega) (by omega) ?_
      exact hk (i + 4) q1.2.1 q1.2.2 q3.2 _ _ _ _ _ (by omega) (by omega) hP hD hS (lv_sub hl [3, 4, 5, 6, 0] rfl) h
    · rw [if_pos hc5] at h
      refine lv_aload_n hx hb dL_law_233 rfl (lv_at hl 5 rfl) ?_
      refine lv_iconst (v := 0) hx hb dL_law_234 rfl ?_
      refine va_lald (f := q1.2.2) hx hb hK3 hP 29 2 rfl rfl (i := 0) (by unfold vp_in; decide) dL_law_235 ?_
      refine lv_iload hx hb dL_law_236 (lv_at hl 0 rfl) ?_
      refine lv_i2l (v := Int32.toInt64 q2.1) hx hb dL_law_238 rfl ?_
      refine W.lcmp hx hb dL_law_239 ?_
      refine lv_if_eq (tgt := 245) hx hb dL_law_240 (by decide) (fun hc6 => ?_) (fun hc6 => ?_)
      · rw [if_pos hc6] at h
        refine lv_goto (tgt := 1561) hx hb dL_law_245 (by decide) ?_
        refine lv_iinc (v := (i + 4)) (lv' := [(4, .int (i + 4)), (6, .int q2.1), (5, .int q1.1), (0, .ref (b)), (1, .ref (a4 0)), (2, .ref (a5 0)), (3, .ref (ao))]) hx hb dL_law_1561 hl (k := 6) rfl rfl (by decide) rfl (fun ls hl => ?_)
        refine lv_goto (tgt := 23) hx hb dL_law_1564 (by decide) ?_
        refine W.widen (k := cells + 5) (n := slots + 30) (by omega) (by omega) ?_
        exact hk (i + 4) q1.2.1 q1.2.2 q3.2 _ _ _ _ _ (by omega) (by omega) hP hD hS (lv_sub hl [3, 4, 5, 6, 0] rfl) h
      · rw [if_neg hc6] at h
        refine lv_iconst (v := 0) hx hb dL_law_243 rfl ?_
        exact absurd (Option.some.inj h) (by decide)
  · rw [if_neg hc4] at h
    refine lv_iconst (v := 0) hx hb dL_law_226 rfl ?_
    exact absurd (Option.some.inj h) (by decide)
def g_law_2 (N : Nat) (xs : Nat → Int32) (L : Nat) (K : Int32 → S5 → (Nat → Int64) → St → Option Int32) (i : Int32) (u : S5) (o : Nat → Int64) (σ : St) : Option Int32 := if (i + 1) < 0 ∨ L ≤ ((i + 1)).toNatClampNeg then none else if (i + 2) < 0 ∨ L ≤ ((i + 2)).toNatClampNeg then none else if (i + 3) < 0 ∨ L ≤ ((i + 3)).toNatClampNeg then none else (f_L_type N u.1 u.2.1 u.2.2.1 u.2.2.2.1 u.2.2.2.2 o (xs ((i + 1)).toNatClampNeg) (xs ((i + 2)).toNatClampNeg) (xs ((i + 3)).toNatClampNeg)).bind (fun q1 => if (i + 1) < 0 ∨ L ≤ ((i + 1)).toNatClampNeg then none else if (i + 2) < 0 ∨ L ≤ ((i + 2)).toNatClampNeg then none else if (i + 3) < 0 ∨ L ≤ ((i + 3)).toNatClampNeg then none else (f_X5_type N σ (xs ((i + 1)).toNatClampNeg) (xs ((i + 2)).toNatClampNeg) (xs ((i + 3)).toNatClampNeg)).bind (fun q2 => (f_X5_thrown N q2.2 ).bind (fun q3 => if q3.1 = q1.1 then if q1.1 = 0 then if (lg_cmp (q1.2.2 (Int32.toNatClampNeg 0)) (Int32.toInt64 q2.1)) = 0 then K (i + 4) q1.2.1 q1.2.2 q3.2 else some (0 : Int32) else K (i + 4) q1.2.1 q1.2.2 q3.2 else some (0 : Int32))))
set_option maxHeartbeats 4000000 in
set_option maxRecDepth 100000 in
theorem k_law_2 {p : Program} {l : Launch} {e : Env} {s : State} {m : MethodId} {below : List Frame} {meth : Method} {c : Code} {D : va_G} {cI cZ cJ : ClassId} {sa : Nat → Nat} {a4 a2 a1 a3 a0 a5 : Nat → Nat} {ao b L : Nat} {xs : Nat → Int32} (C0 : lC p l s m meth c b L xs D cI cZ cJ sa) (N : Nat) (n : Nat) (K : Int32 → S5 → (Nat → Int64) → St → Option Int32) (hk : KPl p l e s m below meth c D cI cZ cJ a4 a2 a1 a3 a0 a5 ao b n K 23) : KPl p l e s m below meth c D cI cZ cJ a4 a2 a1 a3 a0 a5 ao b (n + 1) (g_law_2 N xs L K) 248 := by
  obtain ⟨hx, hb, hr, hml, hown, hts, hX9, hbl, hlocks, hK3, hN, hXP, hC, hlt⟩ := id C0
  have hK : va_K D vwCl (kT cI cZ) s := hK3.sub [0, 1] rfl
  have hA : ∀ q : Nat, s.heap.size ≤ q → (fun q : Nat => s.heap.size ≤ q) q := fun _ h => h
  have hbA : ¬ (fun q : Nat => s.heap.size ≤ q) b := Nat.not_le.mpr hbl
  intro i u o σ cells slots H locs ls hc9 hs9 hP hD hS hl h
  unfold g_law_2 at h
  refine lv_aload_n hx hb dL_law_248 rfl (lv_at hl 1 rfl) ?_
  refine lv_aload_n hx hb dL_law_249 rfl (lv_at hl 0 rfl) ?_
  refine lv_iload hx hb dL_law_250 (lv_at hl 4 rfl) ?_
  refine lv_iconst (v := 1) hx hb dL_law_252 rfl ?_
  refine lv_iadd hx hb dL_law_253 ?_
  by_cases hi : (i + 1) < 0 ∨ L ≤ ((i + 1)).toNatClampNeg
  · rw [if_pos hi] at h; exact no h
  rw [if_neg hi] at h
  refine va_sld hx hb hX9 hbl hbA hS (i := (i + 1)) hi dL_law_254 ?_
  refine lv_aload_n hx hb dL_law_255 rfl (lv_at hl 0 rfl) ?_
  refine lv_iload hx hb dL_law_256 (lv_at hl 4 rfl) ?_
  refine lv_iconst (v := 2) hx hb dL_law_258 rfl ?_
  refine lv_iadd hx hb dL_law_259 ?_
  by_cases hi : (i + 2) < 0 ∨ L ≤ ((i + 2)).toNatClampNeg
  · rw [if_pos hi] at h; exact no h
  rw [if_neg hi] at h
  refine va_sld hx hb hX9 hbl hbA hS (i := (i + 2)) hi dL_law_260 ?_
  refine lv_aload_n hx hb dL_law_261 rfl (lv_at hl 0 rfl) ?_
  refine lv_iload hx hb dL_law_262 (lv_at hl 4 rfl) ?_
  refine lv_iconst (v := 3) hx hb dL_law_264 rfl ?_
  refine lv_iadd hx hb dL_law_265 ?_
  by_cases hi : (i + 3) < 0 ∨ L ≤ ((i + 3)).toNatClampNeg
  · rw [if_pos hi] at h; exact no h
  rw [if_neg hi] at h
  refine va_sld hx hb hX9 hbl hbA hS (i := (i + 3)) hi dL_law_266 ?_
  refine lv_aload_n hx hb dL_law_267 rfl (lv_at hl 3 rfl) ?_
  obtain ⟨q1, hq1, h⟩ := ob h
  refine mh_i (ws' := wLL a4 a2 a1 a3 a0 ao a5 cI cZ cJ ((q1.2.1, q1.2.2), σ)) (wr := wX5 a5 cI cZ σ) [0, 1, 2, 3, 4, 5, 6, 7, 8, 9, 10, 11, 12, 13, 14, 15, 16, 17, 18, 19, 20, 21, 22, 23, 24, 25, 26, 27, 28, 29] [30, 31, 32, 33, 34, 35, 36, 37, 38, 39, 40, 41, 42, 43, 44, 45, 46, 47, 48, 49, 50, 51, 52] [23, 24, 25, 26, 27, 28, 29, 30, 31, 32, 33, 34, 35, 36, 37, 38, 39, 40, 41, 42, 43, 44, 45, 46, 47, 48, 49, 50, 51, 52, 0, 1, 2, 3, 4, 5, 6, 7, 8, 9, 10, 11, 12, 13, 14, 15, 16, 17, 18, 19, 20, 21, 22] (vx_runSW (As := [.ref (a4 0), .int (xs ((i + 1)).toNatClampNeg), .int (xs ((i + 2)).toNatClampNeg), .int (xs ((i + 3)).toNatClampNeg), .ref (ao)]) (rest := []) ⟨hx, hb, hml, hown, hts⟩ (c_L_type l hlt D cI cZ cJ sa a4 a2 a1 a3 a0 ao N u.1 u.2.1 u.2.2.1 u.2.2.2.1 u.2.2.2.2 o (xs ((i + 1)).toNatClampNeg) (xs ((i + 2)).toNatClampNeg) (xs ((i + 3)).toNatClampNeg) q1.1 q1.2 hq1 H.size) (vx_cwSW 5 hts gL_law_L_type rfl rfl rfl (by decide +kernel) ⟨Nat.le_of_ble_eq_true rfl, Nat.le_of_ble_eq_true rfl⟩) (pLS [0, 1, 2, 3, 4, 5, 6, 7, 8, 9, 10, 11, 12, 13, 14, 15, 16, 17, 18, 19, 20, 21, 22, 23, 24, 25, 26, 27, 28, 29] hP hD hS hA hK3 hN hXP hC rfl rfl) rfl rfl hl.1 rfl (lv_room (Nat.le_of_ble_eq_true rfl)) dL_law_268 ⟨by show cells + 3 ≤ 601024; omega, by show slots + 18 ≤ 7293034; omega⟩) hP hD hS hA rfl rfl rfl (by decide) rfl rfl (fun H locs hP hD hS => ?_)
  refine lv_istore (lv' := [(5, .int q1.1), (0, .ref (b)), (1, .ref (a4 0)), (2, .ref (a5 0)), (3, .ref (ao)), (4, .int i)]) hx hb dL_law_271 hl (by decide) rfl (fun ls hl => ?_)
  refine lv_aload_n hx hb dL_law_273 rfl (lv_at hl 3 rfl) ?_
  refine lv_aload_n hx hb dL_law_274 rfl (lv_at hl 1 rfl) ?_
  refine lv_iload hx hb dL_law_275 (lv_at hl 5 rfl) ?_
  refine lv_iconst (v := 1) hx hb dL_law_277 rfl ?_
  refine lv_iadd hx hb dL_law_278 ?_
  by_cases hi : (i + 1) < 0 ∨ L ≤ ((i + 1)).toNatClampNeg
  · rw [if_pos hi] at h; exact no h
  rw [if_neg hi] at h
  refine va_sld hx hb hX9 hbl hbA hS (i := (i + 1)) hi dL_law_279 ?_
  refine lv_aload_n hx hb dL_law_280 rfl (lv_at hl 1 rfl) ?_
  refine lv_iload hx hb dL_law_281 (lv_at hl 5 rfl) ?_
  refine lv_iconst (v := 2) hx hb dL_law_283 rfl ?_
  refine lv_iadd hx hb dL_law_284 ?_
  by_cases hi : (i + 2) < 0 ∨ L ≤ ((i + 2)).toNatClampNeg
  · rw [if_pos hi] at h; exact no h
  rw [if_neg hi] at h
  refine va_sld hx hb hX9 hbl hbA hS (i := (i + 2)) hi dL_law_285 ?_
  refine lv_aload_n hx hb dL_law_286 rfl (lv_at hl 1 rfl) ?_
  refine lv_iload hx hb dL_law_287 (lv_at hl 5 rfl) ?_
  refine lv_iconst (v := 3) hx hb dL_law_289 rfl ?_
  refine lv_iadd hx hb dL_law_290 ?_
  by_cases hi : (i + 3) < 0 ∨ L ≤ ((i + 3)).toNatClampNeg
  · rw [if_pos hi] at h; exact no h
  rw [if_neg hi] at h
  refine va_sld hx hb hX9 hbl hbA hS (i := (i + 3)) hi dL_law_291 ?_
  obtain ⟨q2, hq2, h⟩ := ob h
  refine mg_i (ws' := wLL a4 a2 a1 a3 a0 ao a5 cI cZ cJ ((q1.2.1, q1.2.2), q2.2)) (wr := wL4 a4 a2 a1 a3 a0 ao cI cZ cJ (q1.2.1, q1.2.2)) [30, 31, 32, 33, 34, 35, 36, 37, 38, 39, 40, 41, 42, 43, 44, 45, 46, 47, 48, 49, 50, 51, 52] [0, 1, 2, 3, 4, 5, 6, 7, 8, 9, 10, 11, 12, 13, 14, 15, 16, 17, 18, 19, 20, 21, 22, 23, 24, 25, 26, 27, 28, 29] [0, 1, 2, 3, 4, 5, 6, 7, 8, 9, 10, 11, 12, 13, 14, 15, 16, 17, 18, 19, 20, 21, 22, 23, 24, 25, 26, 27, 28, 29, 30, 31, 32, 33, 34, 35, 36, 37, 38, 39, 40, 41, 42, 43, 44, 45, 46, 47, 48, 49, 50, 51, 52] (va_runV (As := [.int (xs ((i + 1)).toNatClampNeg), .int (xs ((i + 2)).toNatClampNeg), .int (xs ((i + 3)).toNatClampNeg)]) (rest := []) ⟨hx, hb, hml, hown, hts⟩ (c_X5_type l D cI cZ a5 N σ (xs ((i + 1)).toNatClampNeg) (xs ((i + 2)).toNatClampNeg) (xs ((i + 3)).toNatClampNeg) q2.1 q2.2 hq2 H.size) (cwV 3 hts gL_law_X5_type rfl rfl rfl (by decide +kernel) ⟨Nat.le_of_ble_eq_true rfl, Nat.le_of_ble_eq_true rfl⟩) (pV [30, 31, 32, 33, 34, 35, 36, 37, 38, 39, 40, 41, 42, 43, 44, 45, 46, 47, 48, 49, 50, 51, 52] hP hD hK hN rfl rfl rfl rfl) rfl rfl hl.1 rfl (lv_room (Nat.le_of_ble_eq_true rfl)) dL_law_292 ⟨by show cells + 3 + 0 ≤ 601024; omega, by show slots + 18 + 0 ≤ 7293034; omega⟩) hP hD hS hA rfl rfl rfl (by decide) rfl rfl (fun H locs hP hD hS => ?_)
  refine lv_istore (lv' := [(6, .int q2.1), (5, .int q1.1), (0, .ref (b)), (1, .ref (a4 0)), (2, .ref (a5 0)), (3, .ref (ao)), (4, .int i)]) hx hb dL_law_295 hl (by decide) rfl (fun ls hl => ?_)
  refine lv_aload_n hx hb dL_law_297 rfl (lv_at hl 4 rfl) ?_
  obtain ⟨q3, hq3, h⟩ := ob h
  refine mg_i (ws' := wLL a4 a2 a1 a3 a0 ao a5 cI cZ cJ ((q1.2.1, q1.2.2), q3.2)) (wr := wL4 a4 a2 a1 a3 a0 ao cI cZ cJ (q1.2.1, q1.2.2)) [30, 31, 32, 33, 34, 35, 36, 37, 38, 39, 40, 41, 42, 43, 44, 45, 46, 47, 48, 49, 50, 51, 52] [0, 1, 2, 3, 4, 5, 6, 7, 8, 9, 10, 11, 12, 13, 14, 15, 16, 17, 18, 19, 20, 21, 22, 23, 24, 25, 26, 27, 28, 29] [0, 1, 2, 3, 4, 5, 6, 7, 8, 9, 10, 11, 12, 13, 14, 15, 16, 17, 18, 19, 20, 21, 22, 23, 24, 25, 26, 27, 28, 29, 30, 31, 32, 33, 34, 35, 36, 37, 38, 39, 40, 41, 42, 43, 44, 45, 46, 47, 48, 49, 50, 51, 52] (va_runV (As := []) (rest := []) ⟨hx, hb, hml, hown, hts⟩ (c_X5_thrown l D cI cZ a5 N q2.2  q3.1 q3.2 hq3 H.size) (cwV 0 hts gL_law_X5_thrown rfl rfl rfl (by decide +kernel) ⟨Nat.le_of_ble_eq_true rfl, Nat.le_of_ble_eq_true rfl⟩) (pV [30, 31, 32, 33, 34, 35, 36, 37, 38, 39, 40, 41, 42, 43, 44, 45, 46, 47, 48, 49, 50, 51, 52] hP hD hK hN rfl rfl rfl rfl) rfl rfl hl.1 rfl (lv_room (Nat.le_of_ble_eq_true rfl)) dL_law_298 ⟨by show cells + 3 + 0 ≤ 601024; omega, by show slots + 18 + 0 ≤ 7293034; omega⟩) hP hD hS hA rfl rfl rfl (by decide) rfl rfl (fun H locs hP hD hS => ?_)
  refine lv_iload hx hb dL_law_301 (lv_at hl 1 rfl) ?_
  refine lv_icmp_eq (tgt := 308) hx hb dL_law_303 (by decide) (fun hc4 => ?_) (fun hc4 => ?_)
  · rw [if_pos hc4] at h
    refine lv_iload hx hb dL_law_308 (lv_at hl 1 rfl) ?_
    refine lv_if_ne (tgt := 325) hx hb dL_law_310 (by decide) (fun hc5 => ?_) (fun hc5 => ?_)
    · rw [if_neg hc5] at h
      refine lv_goto (tgt := 1561) hx hb dL_law_325 (by decide) ?_
      refine lv_iinc (v := (i + 4)) (lv' := [(4, .int (i + 4)), (6, .int q2.1), (5, .int q1.1), (0, .ref (b)), (1, .ref (a4 0)), (2, .ref (a5 0)), (3, .ref (ao))]) hx hb dL_law_1561 hl (k := 6) rfl rfl (by decide) rfl (fun ls hl => ?_)
      refine lv_goto (tgt := 23) hx hb dL_law_1564 (by decide) ?_
      refine W.widen (k := cells + 5) (n := slots + 30) (by omega) (by omega) ?_
      exact hk (i + 4) q1.2.1 q1.2.2 q3.2 _ _ _ _ _ (by omega) (by omega) hP hD hS (lv_sub hl [3, 4, 5, 6, 0] rfl) h
    · rw [if_pos hc5] at h
      refine lv_aload_n hx hb dL_law_313 rfl (lv_at hl 5 rfl) ?_
      refine lv_iconst (v := 0) hx hb dL_law_314 rfl ?_
      refine va_lald (f := q1.2.2) hx hb hK3 hP 29 2 rfl rfl (i := 0) (by unfold vp_in; decide) dL_law_315 ?_
      refine lv_iload hx hb dL_law_316 (lv_at hl 0 rfl) ?_
      refine lv_i2l (v := Int32.toInt64 q2.1) hx hb dL_law_318 rfl ?_
      refine W.lcmp hx hb dL_law_319 ?_
      refine lv_if_eq (tgt := 325) hx hb dL_law_320 (by decide) (fun hc6 => ?_) (fun hc6 => ?_)
      · rw [if_pos hc6] at h
        refine lv_goto (tgt := 1561) hx hb dL_law_325 (by decide) ?_
        refine lv_iinc (v := (i + 4)) (lv' := [(4, .int (i + 4)), (6, .int q2.1), (5, .int q1.1), (0, .ref (b)), (1, .ref (a4 0)), (2, .ref (a5 0)), (3, .ref (ao))]) hx hb dL_law_1561 hl (k := 6) rfl rfl (by decide) rfl (fun ls hl => ?_)
        refine lv_goto (tgt := 23) hx hb dL_law_1564 (by decide) ?_
        refine W.widen (k := cells + 5) (n := slots + 30) (by omega) (by omega) ?_
        exact hk (i + 4) q1.2.1 q1.2.2 q3.2 _ _ _ _ _ (by omega) (by omega) hP hD hS (lv_sub hl [3, 4, 5, 6, 0] rfl) h
      · rw [if_neg hc6] at h
        refine lv_iconst (v := 0) hx hb dL_law_323 rfl ?_
        exact absurd (Option.some.inj h) (by decide)
  · rw [if_neg hc4] at h
    refine lv_iconst (v := 0) hx hb dL_law_306 rfl ?_
    exact absurd (Option.some.inj h) (by decide)
def g_law_3 (N : Nat) (xs : Nat → Int32) (L : Nat) (K : Int32 → S5 → (Nat → Int64) → St → Option Int32) (i : Int32) (u : S5) (o : Nat → Int64) (σ : St) : Option Int32 := if (i + 1) < 0 ∨ L ≤ ((i + 1)).toNatClampNeg then none else if (i + 2) < 0 ∨ L ≤ ((i + 2)).toNatClampNeg then none else (f_L_typeSymbol N u.1 u.2.1 u.2.2.1 u.2.2.2.1 u.2.2.2.2 o (xs ((i + 1)).toNatClampNeg) (xs ((i + 2)).toNatClampNeg)).bind (fun q1 => if (i + 1) < 0 ∨ L ≤ ((i + 1)).toNatClampNeg then none else if (i + 2) < 0 ∨ L ≤ ((i + 2)).toNatClampNeg then none else (f_X5_typeSymbol N σ (xs ((i + 1)).toNatClampNeg) (xs ((i + 2)).toNatClampNeg)).bind (fun q2 => (f_X5_thrown N q2.2 ).bind (fun q3 => if q3.1 = q1.1 then if q1.1 = 0 then if (lg_cmp (q1.2.2 (Int32.toNatClampNeg 0)) (Int32.toInt64 q2.1)) = 0 then K (i + 4) q1.2.1 q1.2.2 q3.2 else some (0 : Int32) else K (i + 4) q1.2.1 q1.2.2 q3.2 else some (0 : Int32))))
set_option maxHeartbeats 4000000 in
set_option maxRecDepth 100000 in
theorem k_law_3 {p : Program} {l : Launch} {e : Env} {s : State} {m : MethodId} {below : List Frame} {meth : Method} {c : Code} {D : va_G} {cI cZ cJ : ClassId} {sa : Nat → Nat} {a4 a2 a1 a3 a0 a5 : Nat → Nat} {ao b L : Nat} {xs : Nat → Int32} (C0 : lC p l s m meth c b L xs D cI cZ cJ sa) (N : Nat) (n : Nat) (K : Int32 → S5 → (Nat → Int64) → St → Option Int32) (hk : KPl p l e s m below meth c D cI cZ cJ a4 a2 a1 a3 a0 a5 ao b n K 23) : KPl p l e s m below meth c D cI cZ cJ a4 a2 a1 a3 a0 a5 ao b (n + 1) (g_law_3 N xs L K) 328 := by
  obtain ⟨hx, hb, hr, hml, hown, hts, hX9, hbl, hlocks, hK3, hN, hXP, hC, hlt⟩ := id C0
  have hK : va_K D vwCl (kT cI cZ) s := hK3.sub [0, 1] rfl
  have hA : ∀ q : Nat, s.heap.size ≤ q → (fun q : Nat => s.heap.size ≤ q) q := fun _ h => h
  have hbA : ¬ (fun q : Nat => s.heap.size ≤ q) b := Nat.not_le.mpr hbl
  intro i u o σ cells slots H locs ls hc9 hs9 hP hD hS hl h
  unfold g_law_3 at h
  refine lv_aload_n hx hb dL_law_328 rfl (lv_at hl 1 rfl) ?_
  refine lv_aload_n hx hb dL_law_329 rfl (lv_at hl 0 rfl) ?_
  refine lv_iload hx hb dL_law_330 (lv_at hl 4 rfl) ?_
  refine lv_iconst (v := 1) hx hb dL_law_332 rfl ?_
  refine lv_iadd hx hb dL_law_333 ?_
  by_cases hi : (i + 1) < 0 ∨ L ≤ ((i + 1)).toNatClampNeg
  · rw [if_pos hi] at h; exact no h
  rw [if_neg hi] at h
  refine va_sld hx hb hX9 hbl hbA hS (i := (i + 1)) hi dL_law_334 ?_
  refine lv_aload_n hx hb dL_law_335 rfl (lv_at hl 0 rfl) ?_
  refine lv_iload hx hb dL_law_336 (lv_at hl 4 rfl) ?_
  refine lv_iconst (v := 2) hx hb dL_law_338 rfl ?_
  refine lv_iadd hx hb dL_law_339 ?_
  by_cases hi : (i + 2) < 0 ∨ L ≤ ((i + 2)).toNatClampNeg
  · rw [if_pos hi] at h; exact no h
  rw [if_neg hi] at h
  refine va_sld hx hb hX9 hbl hbA hS (i := (i + 2)) hi dL_law_340 ?_
  refine lv_aload_n hx hb dL_law_341 rfl (lv_at hl 3 rfl) ?_
  obtain ⟨q1, hq1, h⟩ := ob h
  refine mh_i (ws' := wLL a4 a2 a1 a3 a0 ao a5 cI cZ cJ ((q1.2.1, q1.2.2), σ)) (wr := wX5 a5 cI cZ σ) [0, 1, 2, 3, 4, 5, 6, 7, 8, 9, 10, 11, 12, 13, 14, 15, 16, 17, 18, 19, 20, 21, 22, 23, 24, 25, 26, 27, 28, 29] [30, 31, 32, 33, 34, 35, 36, 37, 38, 39, 40, 41, 42, 43, 44, 45, 46, 47, 48, 49, 50, 51, 52] [23, 24, 25, 26, 27, 28, 29, 30, 31, 32, 33, 34, 35, 36, 37, 38, 39, 40, 41, 42, 43, 44, 45, 46, 47, 48, 49, 50, 51, 52, 0, 1, 2, 3, 4, 5, 6, 7, 8, 9, 10, 11, 12, 13, 14, 15, 16, 17, 18, 19, 20, 21, 22] (vx_runSW (As := [.ref (a4 0), .int (xs ((i + 1)).toNatClampNeg), .int (xs ((i + 2)).toNatClampNeg), .ref (ao)]) (rest := []) ⟨hx, hb, hml, hown, hts⟩ (c_L_typeSymbol l hlt D cI cZ cJ sa a4 a2 a1 a3 a0 ao N u.1 u.2.1 u.2.2.1 u.2.2.2.1 u.2.2.2.2 o (xs ((i + 1)).toNatClampNeg) (xs ((i + 2)).toNatClampNeg) q1.1 q1.2 hq1 H.size) (vx_cwSW 4 hts gL_law_L_typeSymbol rfl rfl rfl (by decide +kernel) ⟨Nat.le_of_ble_eq_true rfl, Nat.le_of_ble_eq_true rfl⟩) (pLS [0, 1, 2, 3, 4, 5, 6, 7, 8, 9, 10, 11, 12, 13, 14, 15, 16, 17, 18, 19, 20, 21, 22, 23, 24, 25, 26, 27, 28, 29] hP hD hS hA hK3 hN hXP hC rfl rfl) rfl rfl hl.1 rfl (lv_room (Nat.le_of_ble_eq_true rfl)) dL_law_342 ⟨by show cells + 2 ≤ 601024; omega, by show slots + 12 ≤ 7293034; omega⟩) hP hD hS hA rfl rfl rfl (by decide) rfl rfl (fun H locs hP hD hS => ?_)
  refine lv_istore (lv' := [(5, .int q1.1), (0, .ref (b)), (1, .ref (a4 0)), (2, .ref (a5 0)), (3, .ref (ao)), (4, .int i)]) hx hb dL_law_345 hl (by decide) rfl (fun ls hl => ?_)
  refine lv_aload_n hx hb dL_law_347 rfl (lv_at hl 3 rfl) ?_
  refine lv_aload_n hx hb dL_law_348 rfl (lv_at hl 1 rfl) ?_
  refine lv_iload hx hb dL_law_349 (lv_at hl 5 rfl) ?_
  refine lv_iconst (v := 1) hx hb dL_law_351 rfl ?_
  refine lv_iadd hx hb dL_law_352 ?_
  by_cases hi : (i + 1) < 0 ∨ L ≤ ((i + 1)).toNatClampNeg
  · rw [if_pos hi] at h; exact no h
  rw [if_neg hi] at h
  refine va_sld hx hb hX9 hbl hbA hS (i := (i + 1)) hi dL_law_353 ?_
  refine lv_aload_n hx hb dL_law_354 rfl (lv_at hl 1 rfl) ?_
  refine lv_iload hx hb dL_law_355 (lv_at hl 5 rfl) ?_
  refine lv_iconst (v := 2) hx hb dL_law_357 rfl ?_
  refine lv_iadd hx hb dL_law_358 ?_
  by_cases hi : (i + 2) < 0 ∨ L ≤ ((i + 2)).toNatClampNeg
  · rw [if_pos hi] at h; exact no h
  rw [if_neg hi] at h
  refine va_sld hx hb hX9 hbl hbA hS (i := (i + 2)) hi dL_law_359 ?_
  obtain ⟨q2, hq2, h⟩ := ob h
  refine mg_i (ws' := wLL a4 a2 a1 a3 a0 ao a5 cI cZ cJ ((q1.2.1, q1.2.2), q2.2)) (wr := wL4 a4 a2 a1 a3 a0 ao cI cZ cJ (q1.2.1, q1.2.2)) [30, 31, 32, 33, 34, 35, 36, 37, 38, 39, 40, 41, 42, 43, 44, 45, 46, 47, 48, 49, 50, 51, 52] [0, 1, 2, 3, 4, 5, 6, 7, 8, 9, 10, 11, 12, 13, 14, 15, 16, 17, 18, 19, 20, 21, 22, 23, 24, 25, 26, 27, 28, 29] [0, 1, 2, 3, 4, 5, 6, 7, 8, 9, 10, 11, 12, 13, 14, 15, 16, 17, 18, 19, 20, 21, 22, 23, 24, 25, 26, 27, 28, 29, 30, 31, 32, 33, 34, 35, 36, 37, 38, 39, 40, 41, 42, 43, 44, 45, 46, 47, 48, 49, 50, 51, 52] (va_runV (As := [.int (xs ((i + 1)).toNatClampNeg), .int (xs ((i + 2)).toNatClampNeg)]) (rest := []) ⟨hx, hb, hml, hown, hts⟩ (c_X5_typeSymbol l D cI cZ a5 N σ (xs ((i + 1)).toNatClampNeg) (xs ((i + 2)).toNatClampNeg) q2.1 q2.2 hq2 H.size) (cwV 2 hts gL_law_X5_typeSymbol rfl rfl rfl (by decide +kernel) ⟨Nat.le_of_ble_eq_true rfl, Nat.le_of_ble_eq_true rfl⟩) (pV [30, 31, 32, 33, 34, 35, 36, 37, 38, 39, 40, 41, 42, 43, 44, 45, 46, 47, 48, 49, 50, 51, 52] hP hD hK hN rfl rfl rfl rfl) rfl rfl hl.1 rfl (lv_room (Nat.le_of_ble_eq_true rfl)) dL_law_360 ⟨by show cells + 2 + 0 ≤ 601024; omega, by show slots + 12 + 0 ≤ 7293034; omega⟩) hP hD hS hA rfl rfl rfl (by decide) rfl rfl (fun H locs hP hD hS => ?_)
  refine lv_istore (lv' := [(6, .int q2.1), (5, .int q1.1), (0, .ref (b)), (1, .ref (a4 0)), (2, .ref (a5 0)), (3, .ref (ao)), (4, .int i)]) hx hb dL_law_363 hl (by decide) rfl (fun ls hl => ?_)
  refine lv_aload_n hx hb dL_law_365 rfl (lv_at hl 4 rfl) ?_
  obtain ⟨q3, hq3, h⟩ := ob h
  refine mg_i (ws' := wLL a4 a2 a1 a3 a0 ao a5 cI cZ cJ ((q1.2.1, q1.2.2), q3.2)) (wr := wL4 a4 a2 a1 a3 a0 ao cI cZ cJ (q1.2.1, q1.2.2)) [30, 31, 32, 33, 34, 35, 36, 37, 38, 39, 40, 41, 42, 43, 44, 45, 46, 47, 48, 49, 50, 51, 52] [0, 1, 2, 3, 4, 5, 6, 7, 8, 9, 10, 11, 12, 13, 14, 15, 16, 17, 18, 19, 20, 21, 22, 23, 24, 25, 26, 27, 28, 29] [0, 1, 2, 3, 4, 5, 6, 7, 8, 9, 10, 11, 12, 13, 14, 15, 16, 17, 18, 19, 20, 21, 22, 23, 24, 25, 26, 27, 28, 29, 30, 31, 32, 33, 34, 35, 36, 37, 38, 39, 40, 41, 42, 43, 44, 45, 46, 47, 48, 49, 50, 51, 52] (va_runV (As := []) (rest := []) ⟨hx, hb, hml, hown, hts⟩ (c_X5_thrown l D cI cZ a5 N q2.2  q3.1 q3.2 hq3 H.size) (cwV 0 hts gL_law_X5_thrown rfl rfl rfl (by decide +kernel) ⟨Nat.le_of_ble_eq_true rfl, Nat.le_of_ble_eq_true rfl⟩) (pV [30, 31, 32, 33, 34, 35, 36, 37, 38, 39, 40, 41, 42, 43, 44, 45, 46, 47, 48, 49, 50, 51, 52] hP hD hK hN rfl rfl rfl rfl) rfl rfl hl.1 rfl (lv_room (Nat.le_of_ble_eq_true rfl)) dL_law_366 ⟨by show cells + 2 + 0 ≤ 601024; omega, by show slots + 12 + 0 ≤ 7293034; omega⟩) hP hD hS hA rfl rfl rfl (by decide) rfl rfl (fun H locs hP hD hS => ?_)
  refine lv_iload hx hb dL_law_369 (lv_at hl 1 rfl) ?_
  refine lv_icmp_eq (tgt := 376) hx hb dL_law_371 (by decide) (fun hc4 => ?_) (fun hc4 => ?_)
  · rw [if_pos hc4] at h
    refine lv_iload hx hb dL_law_376 (lv_at hl 1 rfl) ?_
    refine lv_if_ne (tgt := 393) hx hb dL_law_378 (by decide) (fun hc5 => ?_) (fun hc5 => ?_)
    · rw [if_neg hc5] at h
      refine lv_goto (tgt := 1561) hx hb dL_law_393 (by decide) ?_
      refine lv_iinc (v := (i + 4)) (lv' := [(4, .int (i + 4)), (6, .int q2.1), (5, .int q1.1), (0, .ref (b)), (1, .ref (a4 0)), (2, .ref (a5 0)), (3, .ref (ao))]) hx hb dL_law_1561 hl (k := 6) rfl rfl (by decide) rfl (fun ls hl => ?_)
      refine lv_goto (tgt := 23) hx hb dL_law_1564 (by decide) ?_
      refine W.widen (k := cells + 5) (n := slots + 30) (by omega) (by omega) ?_
      exact hk (i + 4) q1.2.1 q1.2.2 q3.2 _ _ _ _ _ (by omega) (by omega) hP hD hS (lv_sub hl [3, 4, 5, 6, 0] rfl) h
    · rw [if_pos hc5] at h
      refine lv_aload_n hx hb dL_law_381 rfl (lv_at hl 5 rfl) ?_
      refine lv_iconst (v := 0) hx hb dL_law_382 rfl ?_
      refine va_lald (f := q1.2.2) hx hb hK3 hP 29 2 rfl rfl (i := 0) (by unfold vp_in; decide) dL_law_383 ?_
      refine lv_iload hx hb dL_law_384 (lv_at hl 0 rfl) ?_
      refine lv_i2l (v := Int32.toInt64 q2.1) hx hb dL_law_386 rfl ?_
      refine W.lcmp hx hb dL_law_387 ?_
      refine lv_if_eq (tgt := 393) hx hb dL_law_388 (by decide) (fun hc6 => ?_) (fun hc6 => ?_)
      · rw [if_pos hc6] at h
        refine lv_goto (tgt := 1561) hx hb dL_law_393 (by decide) ?_
        refine lv_iinc (v := (i + 4)) (lv' := [(4, .int (i + 4)), (6, .int q2.1), (5, .int q1.1), (0, .ref (b)), (1, .ref (a4 0)), (2, .ref (a5 0)), (3, .ref (ao))]) hx hb dL_law_1561 hl (k := 6) rfl rfl (by decide) rfl (fun ls hl => ?_)
        refine lv_goto (tgt := 23) hx hb dL_law_1564 (by decide) ?_
        refine W.widen (k := cells + 5) (n := slots + 30) (by omega) (by omega) ?_
        exact hk (i + 4) q1.2.1 q1.2.2 q3.2 _ _ _ _ _ (by omega) (by omega) hP hD hS (lv_sub hl [3, 4, 5, 6, 0] rfl) h
      · rw [if_neg hc6] at h
        refine lv_iconst (v := 0) hx hb dL_law_391 rfl ?_
        exact absurd (Option.some.inj h) (by decide)
  · rw [if_neg hc4] at h
    refine lv_iconst (v := 0) hx hb dL_law_374 rfl ?_
    exact absurd (Option.some.inj h) (by decide)
