def f_law (N : Nat) (xs : Nat → Int32) (L : Nat) : Nat → Int32 → S5 → (Nat → Int64) → St → Option Int32
  | 0, _, _, _, _ => none
  | n + 1, i, u, o, σ => if (Int32.ofNat L - 4) < i then some 1 else if i < 0 ∨ L ≤ (i).toNatClampNeg then none else bnd (xs (i).toNatClampNeg &&& 31) (fun v => if v = 0 then g_law_0 N xs L (f_law N xs L n) i u o σ else if v = 1 then g_law_1 N xs L (f_law N xs L n) i u o σ else if v = 2 then g_law_2 N xs L (f_law N xs L n) i u o σ else if v = 3 then g_law_3 N xs L (f_law N xs L n) i u o σ else if v = 4 then g_law_4 N xs L (f_law N xs L n) i u o σ else if v = 5 then g_law_5 N xs L (f_law N xs L n) i u o σ else if v = 6 then g_law_6 N xs L (f_law N xs L n) i u o σ else if v = 7 then g_law_7 N xs L (f_law N xs L n) i u o σ else if v = 8 then g_law_8 N xs L (f_law N xs L n) i u o σ else if v = 9 then g_law_9 N xs L (f_law N xs L n) i u o σ else if v = 10 then g_law_10 N xs L (f_law N xs L n) i u o σ else if v = 11 then g_law_11 N xs L (f_law N xs L n) i u o σ else if v = 12 then g_law_12 N xs L (f_law N xs L n) i u o σ else if v = 13 then g_law_13 N xs L (f_law N xs L n) i u o σ else if v = 14 then g_law_14 N xs L (f_law N xs L n) i u o σ else if v = 15 then g_law_15 N xs L (f_law N xs L n) i u o σ else if v = 16 then g_law_16 N xs L (f_law N xs L n) i u o σ else if v = 17 then g_law_17 N xs L (f_law N xs L n) i u o σ else if v = 18 then g_law_18 N xs L (f_law N xs L n) i u o σ else if v = 19 then g_law_19 N xs L (f_law N xs L n) i u o σ else if v = 20 then g_law_20 N xs L (f_law N xs L n) i u o σ else f_law N xs L n (i + 4) u o σ)
theorem sw_out : ∀ j, j < 32 → ¬ nI j = 0 → ¬ nI j = 1 → ¬ nI j = 2 → ¬ nI j = 3 → ¬ nI j = 4 → ¬ nI j = 5 → ¬ nI j = 6 → ¬ nI j = 7 → ¬ nI j = 8 → ¬ nI j = 9 → ¬ nI j = 10 → ¬ nI j = 11 → ¬ nI j = 12 → ¬ nI j = 13 → ¬ nI j = 14 → ¬ nI j = 15 → ¬ nI j = 16 → ¬ nI j = 17 → ¬ nI j = 18 → ¬ nI j = 19 → ¬ nI j = 20 → (nI j).toInt < 0 ∨ 20 < (nI j).toInt := by
  intro j hj
  intros
  right
  rw [nI_toInt (by omega)]
  have key : ∀ j, j < 21 → (nI j = 0 ∨ nI j = 1 ∨ nI j = 2 ∨ nI j = 3 ∨ nI j = 4 ∨ nI j = 5 ∨ nI j = 6 ∨ nI j = 7 ∨ nI j = 8 ∨ nI j = 9 ∨ nI j = 10 ∨ nI j = 11 ∨ nI j = 12 ∨ nI j = 13 ∨ nI j = 14 ∨ nI j = 15 ∨ nI j = 16 ∨ nI j = 17 ∨ nI j = 18 ∨ nI j = 19 ∨ nI j = 20) := by decide +kernel
  by_cases h : j < 21
  · rcases key j h with e | e | e | e | e | e | e | e | e | e | e | e | e | e | e | e | e | e | e | e | e <;> contradiction
  · omega
set_option maxHeartbeats 4000000 in
set_option maxRecDepth 100000 in
theorem k_law {p : Program} {l : Launch} {e : Env} {s : State} {m : MethodId} {below : List Frame} {meth : Method} {c : Code} {D : va_G} {cI cZ cJ : ClassId} {sa : Nat → Nat} {a4 a2 a1 a3 a0 a5 : Nat → Nat} {ao b L : Nat} {xs : Nat → Int32} (C0 : lC p l s m meth c b L xs D cI cZ cJ sa) (N : Nat) : ∀ n : Nat, KPl p l e s m below meth c D cI cZ cJ a4 a2 a1 a3 a0 a5 ao b n (f_law N xs L n) 23 := by
  obtain ⟨hx, hb, hr, hml, hown, hts, hX9, hbl, hlocks, hK3, hN, hXP, hC, hlt⟩ := id C0
  have hbA : ¬ (fun q : Nat => s.heap.size ≤ q) b := Nat.not_le.mpr hbl
  intro n
  induction n with
  | zero =>
    intro i u o σ cells slots H locs ls hc9 hs9 hP hD hS hl h
    exact no (show (none : Option Int32) = _ from h)
  | succ n ih =>
    intro i u o σ cells slots H locs ls hc9 hs9 hP hD hS hl h
    rw [f_law] at h
    refine lv_iload hx hb dL_law_23 (lv_at hl 4 rfl) ?_
    refine lv_aload_n hx hb dL_law_25 rfl (lv_at hl 0 rfl) ?_
    refine va_slen hx hb hX9 hbl hbA hS dL_law_26 ?_
    refine lv_iconst (v := 4) hx hb dL_law_27 rfl ?_
    refine lv_isub hx hb dL_law_28 ?_
    refine lv_icmp_gt (tgt := 1567) hx hb dL_law_29 (by decide) (fun hc1 => ?_) (fun hc1 => ?_)
    · refine lv_iconst (v := 1) hx hb dL_law_1567 rfl ?_
      refine va_forget (fun q hq => hS.2.2 q hq) ?_
      refine W.widen (k := 601024) (n := 7293034) (by omega) (by omega) ?_
      exact lw_ret hx hb hr hlocks dL_law_1568
    · rw [if_neg hc1] at h
      refine lv_aload_n hx hb dL_law_32 rfl (lv_at hl 0 rfl) ?_
      refine lv_iload hx hb dL_law_33 (lv_at hl 4 rfl) ?_
      by_cases hi : i < 0 ∨ L ≤ (i).toNatClampNeg
      · rw [if_pos hi] at h; exact no h
      rw [if_neg hi] at h
      refine va_sld hx hb hX9 hbl hbA hS (i := i) hi dL_law_35 ?_
      refine lv_bipush (v := 31) hx hb dL_law_36 rfl ?_
      refine lv_iand hx hb dL_law_38 ?_
      obtain ⟨v, ev, h⟩ := bn h
      rw [← ev]
      by_cases hv0 : v = 0
      · rw [if_pos hv0] at h
        subst hv0
        refine lv_tableIn (tgt := 136) hx hb dL_law_39 (by decide) (by decide) rfl (by decide) ?_
        exact k_law_0 C0 N n (f_law N xs L n) ih i u o σ cells slots H locs ls hc9 hs9 hP hD hS hl h
      rw [if_neg hv0] at h
      by_cases hv1 : v = 1
      · rw [if_pos hv1] at h
        subst hv1
        refine lv_tableIn (tgt := 192) hx hb dL_law_39 (by decide) (by decide) rfl (by decide) ?_
        exact k_law_1 C0 N n (f_law N xs L n) ih i u o σ cells slots H locs ls hc9 hs9 hP hD hS hl h
      rw [if_neg hv1] at h
      by_cases hv2 : v = 2
      · rw [if_pos hv2] at h
        subst hv2
        refine lv_tableIn (tgt := 248) hx hb dL_law_39 (by decide) (by decide) rfl (by decide) ?_
        exact k_law_2 C0 N n (f_law N xs L n) ih i u o σ cells slots H locs ls hc9 hs9 hP hD hS hl h
      rw [if_neg hv2] at h
      by_cases hv3 : v = 3
      · rw [if_pos hv3] at h
        subst hv3
        refine lv_tableIn (tgt := 328) hx hb dL_law_39 (by decide) (by decide) rfl (by decide) ?_
        exact k_law_3 C0 N n (f_law N xs L n) ih i u o σ cells slots H locs ls hc9 hs9 hP hD hS hl h
      rw [if_neg hv3] at h
      by_cases hv4 : v = 4
      · rw [if_pos hv4] at h
        subst hv4
        refine lv_tableIn (tgt := 396) hx hb dL_law_39 (by decide) (by decide) rfl (by decide) ?_
        exact k_law_4 C0 N n (f_law N xs L n) ih i u o σ cells slots H locs ls hc9 hs9 hP hD hS hl h
      rw [if_neg hv4] at h
      by_cases hv5 : v = 5
      · rw [if_pos hv5] at h
        subst hv5
        refine lv_tableIn (tgt := 452) hx hb dL_law_39 (by decide) (by decide) rfl (by decide) ?_
        exact k_law_5 C0 N n (f_law N xs L n) ih i u o σ cells slots H locs ls hc9 hs9 hP hD hS hl h
      rw [if_neg hv5] at h
      by_cases hv6 : v = 6
      · rw [if_pos hv6] at h
        subst hv6
        refine lv_tableIn (tgt := 520) hx hb dL_law_39 (by decide) (by decide) rfl (by decide) ?_
        exact k_law_6 C0 N n (f_law N xs L n) ih i u o σ cells slots H locs ls hc9 hs9 hP hD hS hl h
      rw [if_neg hv6] at h
      by_cases hv7 : v = 7
      · rw [if_pos hv7] at h
        subst hv7
        refine lv_tableIn (tgt := 588) hx hb dL_law_39 (by decide) (by decide) rfl (by decide) ?_
        exact k_law_7 C0 N n (f_law N xs L n) ih i u o σ cells slots H locs ls hc9 hs9 hP hD hS hl h
      rw [if_neg hv7] at h
      by_cases hv8 : v = 8
      · rw [if_pos hv8] at h
        subst hv8
        refine lv_tableIn (tgt := 656) hx hb dL_law_39 (by decide) (by decide) rfl (by decide) ?_
        exact k_law_8 C0 N n (f_law N xs L n) ih i u o σ cells slots H locs ls hc9 hs9 hP hD hS hl h
      rw [if_neg hv8] at h
      by_cases hv9 : v = 9
      · rw [if_pos hv9] at h
        subst hv9
        refine lv_tableIn (tgt := 724) hx hb dL_law_39 (by decide) (by decide) rfl (by decide) ?_
        exact k_law_9 C0 N n (f_law N xs L n) ih i u o σ cells slots H locs ls hc9 hs9 hP hD hS hl h
      rw [if_neg hv9] at h
      by_cases hv10 : v = 10
      · rw [if_pos hv10] at h
        subst hv10
        refine lv_tableIn (tgt := 792) hx hb dL_law_39 (by decide) (by decide) rfl (by decide) ?_
        exact k_law_10 C0 N n (f_law N xs L n) ih i u o σ cells slots H locs ls hc9 hs9 hP hD hS hl h
      rw [if_neg hv10] at h
      by_cases hv11 : v = 11
      · rw [if_pos hv11] at h
        subst hv11
        refine lv_tableIn (tgt := 860) hx hb dL_law_39 (by decide) (by decide) rfl (by decide) ?_
        exact k_law_11 C0 N n (f_law N xs L n) ih i u o σ cells slots H locs ls hc9 hs9 hP hD hS hl h
      rw [if_neg hv11] at h
      by_cases hv12 : v = 12
      · rw [if_pos hv12] at h
        subst hv12
        refine lv_tableIn (tgt := 940) hx hb dL_law_39 (by decide) (by decide) rfl (by decide) ?_
        exact k_law_12 C0 N n (f_law N xs L n) ih i u o σ cells slots H locs ls hc9 hs9 hP hD hS hl h
      rw [if_neg hv12] at h
      by_cases hv13 : v = 13
      · rw [if_pos hv13] at h
        subst hv13
        refine lv_tableIn (tgt := 1020) hx hb dL_law_39 (by decide) (by decide) rfl (by decide) ?_
        exact k_law_13 C0 N n (f_law N xs L n) ih i u o σ cells slots H locs ls hc9 hs9 hP hD hS hl h
      rw [if_neg hv13] at h
      by_cases hv14 : v = 14
      · rw [if_pos hv14] at h
        subst hv14
        refine lv_tableIn (tgt := 1076) hx hb dL_law_39 (by decide) (by decide) rfl (by decide) ?_
        exact k_law_14 C0 N n (f_law N xs L n) ih i u o σ cells slots H locs ls hc9 hs9 hP hD hS hl h
      rw [if_neg hv14] at h
      by_cases hv15 : v = 15
      · rw [if_pos hv15] at h
        subst hv15
        refine lv_tableIn (tgt := 1144) hx hb dL_law_39 (by decide) (by decide) rfl (by decide) ?_
        exact k_law_15 C0 N n (f_law N xs L n) ih i u o σ cells slots H locs ls hc9 hs9 hP hD hS hl h
      rw [if_neg hv15] at h
      by_cases hv16 : v = 16
      · rw [if_pos hv16] at h
        subst hv16
        refine lv_tableIn (tgt := 1212) hx hb dL_law_39 (by decide) (by decide) rfl (by decide) ?_
        exact k_law_16 C0 N n (f_law N xs L n) ih i u o σ cells slots H locs ls hc9 hs9 hP hD hS hl h
      rw [if_neg hv16] at h
      by_cases hv17 : v = 17
      · rw [if_pos hv17] at h
        subst hv17
        refine lv_tableIn (tgt := 1287) hx hb dL_law_39 (by decide) (by decide) rfl (by decide) ?_
        exact k_law_17 C0 N n (f_law N xs L n) ih i u o σ cells slots H locs ls hc9 hs9 hP hD hS hl h
      rw [if_neg hv17] at h
      by_cases hv18 : v = 18
      · rw [if_pos hv18] at h
        subst hv18
        refine lv_tableIn (tgt := 1362) hx hb dL_law_39 (by decide) (by decide) rfl (by decide) ?_
        exact k_law_18 C0 N n (f_law N xs L n) ih i u o σ cells slots H locs ls hc9 hs9 hP hD hS hl h
      rw [if_neg hv18] at h
      by_cases hv19 : v = 19
      · rw [if_pos hv19] at h
        subst hv19
        refine lv_tableIn (tgt := 1437) hx hb dL_law_39 (by decide) (by decide) rfl (by decide) ?_
        exact k_law_19 C0 N n (f_law N xs L n) ih i u o σ cells slots H locs ls hc9 hs9 hP hD hS hl h
      rw [if_neg hv19] at h
      by_cases hv20 : v = 20
      · rw [if_pos hv20] at h
        subst hv20
        refine lv_tableIn (tgt := 1505) hx hb dL_law_39 (by decide) (by decide) rfl (by decide) ?_
        exact k_law_20 C0 N n (f_law N xs L n) ih i u o σ cells slots H locs ls hc9 hs9 hP hD hS hl h
      rw [if_neg hv20] at h
      obtain ⟨j, hj, ej⟩ := pk_andE (xs (i).toNatClampNeg) (m := 31) 5 (by decide)
      have evj : v = nI j := ev.trans ej
      subst evj
      refine lv_tableOut (tgt := 1561) hx hb dL_law_39 (sw_out j hj hv0 hv1 hv2 hv3 hv4 hv5 hv6 hv7 hv8 hv9 hv10 hv11 hv12 hv13 hv14 hv15 hv16 hv17 hv18 hv19 hv20) (by decide) ?_
      refine lv_iinc (v := (i + 4)) (lv' := [(4, .int (i + 4)), (0, .ref b), (1, .ref (a4 0)), (2, .ref (a5 0)), (3, .ref ao)]) hx hb dL_law_1561 hl (k := 4) rfl rfl (by decide) rfl (fun ls hl => ?_)
      refine lv_goto (tgt := 23) hx hb dL_law_1564 (by decide) ?_
      exact ih (i + 4) u o σ cells slots H locs ls (by omega) (by omega) hP hD hS (lv_sub hl [1, 2, 3, 4, 0] rfl) h
