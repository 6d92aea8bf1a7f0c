/-! the law from its entry: the premises of the start, the two objects, the row of one long, the loop -/
theorem arrc {args : Array Value} {s : State} {ty : FieldType} (h : (Cond.arrayClass ty).before args s = true) : ∃ cA : ClassId, ArrOfT s cA ty ∧ s.vm.findClass ("[" ++ ty.toString) = some cA := by
  obtain ⟨cA, kA, comp, h1, h2, h3⟩ := Cond.arrayClass_spec (args := args) (first := s) (o := none) (s := s) (idx := []) h
  exact ⟨cA, fun n z => ⟨fun k h => (by cases h), kA, h2, comp, h3⟩, h1⟩
theorem cA_long {D : va_G} {cI cZ cJ cA : ClassId} {s : State} (h : va_K D vwCl (kT3 cI cZ cJ ++ [(cA, .long)]) s) : cJ = cA := by
  have h1 := (h.2 2 (cJ, .long) rfl).2
  have h2 := (h.2 3 (cA, .long) rfl).2
  exact Option.some.inj (h1.symm.trans h2)
theorem strs_tbl : ∀ q ∈ strs, Cond.stringRef RX4 q.1 q.2 ∈ lw_tbl := by decide +kernel
theorem nws_tbl : ∀ w ∈ NWs, w ∈ lw_tbl := by decide +kernel
theorem nes_tbl : ∀ w ∈ NEs, w ∈ lw_tbl := by decide +kernel
theorem strs_giv : ∀ q ∈ strs, Cond.exactly (.string RX4 q.1) "java/lang/String" ∈ flatC (Jvm.Cond.and given_1 narrow_1) := by decide +kernel
theorem ncs_giv : ∀ q ∈ ncs, Cond.not (.castable q.1 q.2) ∈ flatC (Jvm.Cond.and given_1 narrow_1) := by decide +kernel
set_option maxHeartbeats 4000000 in
set_option maxRecDepth 100000 in
theorem law_start {p : Program} {e : Env} {s : State} {m : MethodId} {below : List Frame} {meth : Method} {c : Code} (l : Launch) (hlt : l.stackTraces = false) {b L : Nat} {xs : Nat → Int32} (C0 : lw_At p s m meth c b L xs) (N : Nat) (g : Nat → Int32) (hg : f_J7_fill_53178 N 4096 (fun _ => 0) (-1) = some g) (g0 : Nat → Int32) (hg0 : f_J7_fill_53178 N 1000 (fun _ => 0) (-1) = some g0) (u1 : St) (hu1 : f_X5_init_tail N x5i = some u1)
    (hf : f_law N xs L 600 0 (x4i, upR z0 6 g, z0, z0, upR z0 5 g0) (fun _ => 0) u1 = some 1) : W p l e room_1 s m #[Value.ref b] below meth c s.heap [] 0 0 (lw_Z below #[Value.ref b] s) (entryFrame m ([Value.ref b] : List Value).toArray 7) := by
  obtain ⟨hx, hb, hr, hml, hown, hts, hX, hbl, hlocks, hgv⟩ := id C0
  have hgf := flat_of_before _ hgv
  have htw : ∀ w ∈ wsL_law, w.before #[Value.ref b] s = true := fun w h => hts w (wl_in w h)
  have hA : ∀ q : Nat, s.heap.size ≤ q → (fun q : Nat => s.heap.size ≤ q) q := fun _ h => h
  have hnA : ∀ a : Nat, a < s.heap.size → ¬ (fun q : Nat => s.heap.size ≤ q) a := fun a h => Nat.not_le.mpr h
  obtain ⟨c0, i0, hKn0⟩ := u_known (C := RX0) (T := TX0) (N := 7) (n := 7) hts wl_wsX00 (hts (.instantiable RX0 7) (by decide +kernel))
  obtain ⟨c1, i1, hKn1⟩ := u_known (C := RX1) (T := TX1) (N := 8) (n := 8) hts wl_wsX10 (hts (.instantiable RX1 8) (by decide +kernel))
  obtain ⟨c2, i2, hKn2⟩ := u_known (C := RX2) (T := TX2) (N := 14) (n := 14) hts wl_wsX20 (hts (.instantiable RX2 14) (by decide +kernel))
  obtain ⟨c3, i3, hKn3⟩ := u_known (C := RX3) (T := TX3) (N := 6) (n := 6) hts wl_wsX30 (hts (.instantiable RX3 6) (by decide +kernel))
  obtain ⟨c4, i4, hKn4⟩ := u_known (C := RX4) (T := TX4) (N := 7) (n := 7) hts wl_wsX40 (hts (.instantiable RX4 7) (by decide +kernel))
  obtain ⟨c5, i5, hKn5⟩ := u_known (C := RX5) (T := TX5) (N := 30) (n := 30) hts wl_wsX50 (hts (.instantiable RX5 30) (by decide +kernel))
  obtain ⟨D, hKc⟩ : ∃ D : va_G, ∀ (k : Nat) (q : vw_C), vwCl[k]? = some q → u_Kn s q.1 q.2.1 q.2.2 (D.1 k) (D.2 k) := by
    refine ⟨(fun k => if k = 0 then c0 else if k = 1 then c1 else if k = 2 then c2 else if k = 3 then c3 else if k = 4 then c4 else c5, fun k => if k = 0 then i0 else if k = 1 then i1 else if k = 2 then i2 else if k = 3 then i3 else if k = 4 then i4 else i5), ?_⟩
    intro k q hq
    match k, hq with
    | 0, hq => cases hq; exact hKn0
    | 1, hq => cases hq; exact hKn1
    | 2, hq => cases hq; exact hKn2
    | 3, hq => cases hq; exact hKn3
    | 4, hq => cases hq; exact hKn4
    | 5, hq => cases hq; exact hKn5
    | k + 6, hq => simp [vwCl] at hq
  obtain ⟨cI, hI1, hI2⟩ := arrc (ty := .int) (hts (.arrayClass .int) (by decide +kernel))
  obtain ⟨cZ, hZ1, hZ2⟩ := arrc (ty := .boolean) (hts (.arrayClass .boolean) (by decide +kernel))
  obtain ⟨cJ, hJ1, hJ2⟩ := arrc (ty := .long) (hts (.arrayClass .long) (by decide +kernel))
  have hK3 : va_K D vwCl (kT3 cI cZ cJ) s := ⟨hKc, fun k q h => by
    match k, h with
    | 0, h => cases h; exact ⟨hI1, hI2⟩
    | 1, h => cases h; exact ⟨hZ1, hZ2⟩
    | 2, h => cases h; exact ⟨hJ1, hJ2⟩
    | k + 3, h => simp at h⟩
  have hK : va_K D vwCl (kT cI cZ) s := hK3.sub [0, 1] rfl
  have hN : NW s := fun w hw => va_Nw.of (NWs_on w hw) (hts w (nws_tbl w hw))
  have hE : NE s := fun w hw => va_Nw.of (NEs_on w hw) (hts w (nes_tbl w hw))
  have hC : NC s := fun q hq => va_Nc.of (hgf _ (ncs_giv q hq))
  obtain ⟨sa, hsa⟩ : ∃ sa : Nat → Nat, ∀ q ∈ strs, vk_R RX4 q.1 q.2 (sa q.1) s := by
    have h0 : ∀ i : Nat, ∃ a : Nat, ∀ tx, (i, tx) ∈ strs → vk_R RX4 i tx a s := by
      intro i
      by_cases h : ∃ tx, (i, tx) ∈ strs
      · obtain ⟨tx, htx⟩ := h
        obtain ⟨a, _, _, _, ha, -⟩ := Cond.exactly_spec (args := #[Value.ref b]) (first := s) (o := none) (s := s) (idx := []) (hgf _ (strs_giv _ htx))
        exact ⟨a, fun tx2 h2 => vk_R.of (hts _ (strs_tbl _ h2)) ha⟩
      · exact ⟨0, fun tx h2 => absurd ⟨tx, h2⟩ h⟩
    obtain ⟨sa, hsa⟩ := Classical.axiomOfChoice h0
    exact ⟨sa, fun q hq => hsa q.1 q.2 hq⟩
  have hXP : XP sa (fun q : Nat => s.heap.size ≤ q) s s.heap := ⟨hsa, hE, vx_Zqof (hts (.laysStatic Bundle.tN "UNASSIGNED_STACK" Bundle.steD) (by decide +kernel)) (hts (.initialized Bundle.tN) (by decide +kernel)) (hgf (.isRef (.static Bundle.tN "UNASSIGNED_STACK" Bundle.steD)) (by decide +kernel)) hnA, vx_Zqof (hts (.laysStatic Bundle.tN "SUPPRESSED_SENTINEL" Bundle.listD) (by decide +kernel)) (hts (.initialized Bundle.tN) (by decide +kernel)) (hgf (.isRef (.static Bundle.tN "SUPPRESSED_SENTINEL" Bundle.listD)) (by decide +kernel)) hnA⟩
  have hS : va_S (fun q : Nat => s.heap.size ≤ q) s.heap s.heap [] := va_S.rf
  have hP : va_P D vwCl [] s.heap := fun k q h => by simp at h
  have hD : va_D (fun q : Nat => s.heap.size ≤ q) [] := ⟨fun i j p q h => by simp at h, fun k q h => by simp at h⟩
  have hl := lv_entry ([.ref b]) (n := 7) (Nat.le_of_ble_eq_true rfl)
  rw [lg_entry_eq]
  generalize (lg_sl ([.ref b]) ++ List.replicate (7 - (lg_sl ([.ref b])).length) Slot.unset).toArray = ls at hl ⊢
  have hl : lv_has ls 7 [(0, .ref b)] := hl
  refine va_new (ci := 4) (fs := [.null, .null, .null, .null, .null, .int 0, .int 0]) (C := RX4) (T := TX4) (N := 7) hx hb hts wl_wsX40 tyX4 tyX4_ok hown (hts (.classLink RL 8 RX4) (by decide +kernel)) (hts (.instantiable RX4 7) (by decide +kernel)) (hts (.initialized RX4) (by decide +kernel)) hK hP hD hS hA rfl (fun j hj => by rcases (show j = 0 ∨ j = 1 ∨ j = 2 ∨ j = 3 ∨ j = 4 ∨ j = 5 ∨ j = 6 by omega) with rfl | rfl | rfl | rfl | rfl | rfl | rfl <;> rfl) (Nat.le_of_ble_eq_true rfl) (Nat.le_of_ble_eq_true rfl) dL_law_0 (fun q1 H hP hD hS => ?_)
  have hP : va_P D vwCl [(q1, .inr (4, [.null, .null, .null, .null, .null, .int 0, .int 0]))] H := hP
  have hD : va_D (fun q : Nat => s.heap.size ≤ q) [(q1, .inr (4, [.null, .null, .null, .null, .null, .int 0, .int 0]))] := hD
  refine lv_dup hx hb dL_law_3 rfl ?_
  refine mn_v (wr := []) [0] [] (va_runI (As := []) (rest := [.ref q1]) ⟨hx, hb, hml, hown, htw⟩ (c_X4_init l D cI cZ q1 N g hg g0 hg0 H.size) (cwI 0 htw gL_law_X4_init rfl rfl rfl (hts (.initialized RX4) (by decide +kernel)) (hts (.methodLink RL 82 yX4_init) (by decide +kernel)) (hts (.instanceMethod yX4_init) (by decide +kernel)) rfl (by decide +kernel) ⟨Nat.le_of_ble_eq_true rfl, Nat.le_of_ble_eq_true rfl⟩) (pS [0] hP hD hK hN rfl rfl) rfl rfl hl.1 rfl (lv_room (Nat.le_of_ble_eq_true rfl)) dL_law_4 ⟨Nat.le_of_ble_eq_true rfl, Nat.le_of_ble_eq_true rfl⟩) hP hD hS hA rfl rfl rfl (by decide) (fun u hu => ?_)
  have hu : u.1 0 = q1 := hu
  subst hu
  intro H locs hP hD hS
  obtain ⟨a4, a2, a1, a3, a0⟩ := u
  have hP : va_P D vwCl (wX4 a4 a2 a1 a3 a0 cI cZ (x4i, upR z0 6 g, z0, z0, upR z0 5 g0)) H := hP
  have hD : va_D (fun q : Nat => s.heap.size ≤ q) (wX4 a4 a2 a1 a3 a0 cI cZ (x4i, upR z0 6 g, z0, z0, upR z0 5 g0)) := hD
  refine lv_astore_n (lv' := [(1, .ref (a4 0)), (0, .ref b)]) hx hb dL_law_7 rfl hl (by decide) rfl (fun ls hl => ?_)
  refine va_new (ci := 5) (fs := [.int 0, .int 0, .null, .int 0, .null, .int 0, .null, .null, .null, .null, .null, .null, .null, .int 0, .int 0, .null, .null, .null, .int 0, .null, .null, .null, .null, .null, .null, .null, .int 0, .null, .null, .null]) (C := RX5) (T := TX5) (N := 30) hx hb hts wl_wsX50 tyX5 tyX5_ok hown (hts (.classLink RL 83 RX5) (by decide +kernel)) (hts (.instantiable RX5 30) (by decide +kernel)) (hts (.initialized RX5) (by decide +kernel)) hK hP hD hS hA rfl (fun j hj => by rcases (show j = 0 ∨ j = 1 ∨ j = 2 ∨ j = 3 ∨ j = 4 ∨ j = 5 ∨ j = 6 ∨ j = 7 ∨ j = 8 ∨ j = 9 ∨ j = 10 ∨ j = 11 ∨ j = 12 ∨ j = 13 ∨ j = 14 ∨ j = 15 ∨ j = 16 ∨ j = 17 ∨ j = 18 ∨ j = 19 ∨ j = 20 ∨ j = 21 ∨ j = 22 ∨ j = 23 ∨ j = 24 ∨ j = 25 ∨ j = 26 ∨ j = 27 ∨ j = 28 ∨ j = 29 by omega) with rfl | rfl | rfl | rfl | rfl | rfl | rfl | rfl | rfl | rfl | rfl | rfl | rfl | rfl | rfl | rfl | rfl | rfl | rfl | rfl | rfl | rfl | rfl | rfl | rfl | rfl | rfl | rfl | rfl | rfl <;> rfl) (Nat.le_of_ble_eq_true rfl) (Nat.le_of_ble_eq_true rfl) dL_law_8 (fun q2 H hP hD hS => ?_)
  refine lv_dup hx hb dL_law_11 rfl ?_
  refine mn_v (q := q2) (c0 := .inr (5, [.int 0, .int 0, .null, .int 0, .null, .int 0, .null, .null, .null, .null, .null, .null, .null, .int 0, .int 0, .null, .null, .null, .int 0, .null, .null, .null, .null, .null, .null, .null, .int 0, .null, .null, .null])) (wr := wX4 a4 a2 a1 a3 a0 cI cZ (x4i, upR z0 6 g, z0, z0, upR z0 5 g0)) [29] [0, 1, 2, 3, 4, 5, 6, 7, 8, 9, 10, 11, 12, 13, 14, 15, 16, 17, 18, 19, 20, 21, 22, 23, 24, 25, 26, 27, 28] (va_runI (As := []) (rest := [.ref q2]) ⟨hx, hb, hml, hown, htw⟩ (c_X5_init l D cI cZ q2 N u1 hu1 H.size) (cwI 0 htw gL_law_X5_init rfl rfl rfl (hts (.initialized RX5) (by decide +kernel)) (hts (.methodLink RL 85 yX5_init) (by decide +kernel)) (hts (.instanceMethod yX5_init) (by decide +kernel)) rfl (by decide +kernel) ⟨Nat.le_of_ble_eq_true rfl, Nat.le_of_ble_eq_true rfl⟩) (pS [29] hP hD hK hN rfl rfl) rfl rfl hl.1 rfl (lv_room (Nat.le_of_ble_eq_true rfl)) dL_law_12 ⟨Nat.le_of_ble_eq_true rfl, Nat.le_of_ble_eq_true rfl⟩) hP hD hS hA rfl rfl rfl (by decide) (fun a5 ha5 => ?_)
  have ha5 : a5 0 = q2 := ha5
  subst ha5
  intro H locs hP hD hS
  refine lv_astore_n (lv' := [(2, .ref (a5 0)), (1, .ref (a4 0)), (0, .ref b)]) hx hb dL_law_15 rfl hl (by decide) rfl (fun ls hl => ?_)
  refine lv_iconst (v := 1) hx hb dL_law_16 rfl ?_
  refine va_newa (atype := .long) (a0 := (1, .inr (.inl (fun _ => 0)))) (N' := 1) hx hb (hts (.arrayClass .long) (by decide +kernel)) rfl hK3 hP hD hS hA (fun _ => rfl) (by decide) rfl (by decide) (Nat.le_of_ble_eq_true rfl) (Nat.le_of_ble_eq_true rfl) dL_law_17 (fun ao cA H hK9 hP hD hS => ?_)
  obtain rfl := cA_long hK9
  refine lv_astore_n (lv' := [(3, .ref ao), (2, .ref (a5 0)), (1, .ref (a4 0)), (0, .ref b)]) hx hb dL_law_19 rfl hl (by decide) rfl (fun ls hl => ?_)
  refine lv_iconst (v := 0) hx hb dL_law_20 rfl ?_
  refine lv_istore (lv' := [(4, .int 0), (3, .ref ao), (2, .ref (a5 0)), (1, .ref (a4 0)), (0, .ref b)]) hx hb dL_law_21 hl (by decide) rfl (fun ls hl => ?_)
  have hP := hP.sub (ws' := wLL a4 a2 a1 a3 a0 ao a5 cI cZ cJ (((x4i, upR z0 6 g, z0, z0, upR z0 5 g0), (fun _ => 0)), u1)) [0, 1, 2, 3, 4, 5, 6, 7, 8, 9, 10, 11, 12, 13, 14, 15, 16, 17, 18, 19, 20, 21, 22, 23, 24, 25, 26, 27, 28, 52, 29, 30, 31, 32, 33, 34, 35, 36, 37, 38, 39, 40, 41, 42, 43, 44, 45, 46, 47, 48, 49, 50, 51] rfl
  have hD := hD.sub (ws' := wLL a4 a2 a1 a3 a0 ao a5 cI cZ cJ (((x4i, upR z0 6 g, z0, z0, upR z0 5 g0), (fun _ => 0)), u1)) [0, 1, 2, 3, 4, 5, 6, 7, 8, 9, 10, 11, 12, 13, 14, 15, 16, 17, 18, 19, 20, 21, 22, 23, 24, 25, 26, 27, 28, 52, 29, 30, 31, 32, 33, 34, 35, 36, 37, 38, 39, 40, 41, 42, 43, 44, 45, 46, 47, 48, 49, 50, 51] rfl rfl
  exact k_law (l := l) (sa := sa) ⟨hx, hb, hr, hml, hown, htw, hX, hbl, hlocks, hK3, hN, hXP, hC, hlt⟩ N 600 0 (x4i, upR z0 6 g, z0, z0, upR z0 5 g0) (fun _ => 0) u1 _ _ _ _ _ (by decide) (by decide) hP hD hS (lv_sub hl [4, 3, 2, 1, 0] rfl) hf
