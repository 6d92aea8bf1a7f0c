/-! PURE: the law, call by call -/
theorem Lint {M : Nat → Int32} {w : Nat} {C : Option ((Int32 ⊕ Nat) × (St × St × St × St × St))} {R : Option (Int32 × St)} {o : Nat → Int64} (h : Sim M w C R) (E : Nat → S5 → Option (Int32 × SL)) (hE : ∀ e u, M e ≠ 0 → E e u = some (M e, (u, o))) : ∃ (c : Int32) (u : S5) (o' : Nat → Int64) (v : Int32) (σ' : St), C.bind (fun q1 => exL q1.1 (fun r1 => bnd (vp_updL o (Int32.toNatClampNeg 0) (Int32.toInt64 r1)) (fun o1 => some (0, (q1.2, o1)))) (fun k => E k q1.2)) = some (c, (u, o')) ∧ R = some (v, σ') ∧ σ' 0 0 = c ∧ Inv w u.1 u.2.1 u.2.2.1 u.2.2.2.2 σ' ∧ (c = 0 → o' (Int32.toNatClampNeg 0) = Int32.toInt64 v) := by
  obtain ⟨r, x, y, t, k, b, v, σ', h1, h2, h3, h4⟩ := h
  rcases h4 with ⟨a, rfl, h0, rfl⟩ | ⟨e, rfl, h0, hne⟩
  · refine ⟨0, (x, y, t, k, b), vp_updL o (Int32.toNatClampNeg 0) (Int32.toInt64 v), v, σ', ?_, h2, h0, h3, fun _ => ?_⟩
    · rw [h1]; rfl
    · rw [vp_updL, if_pos rfl]
  · refine ⟨M e, (x, y, t, k, b), o, v, σ', ?_, h2, h0, h3, fun q => absurd q hne⟩
    rw [h1]
    exact hE e _ hne
theorem Lbool {M : Nat → Int32} {w : Nat} {C : Option ((Int32 ⊕ Nat) × (St × St × St × St × St))} {R : Option (Int32 × St)} {o : Nat → Int64} (h : Sim M w C R) (E : Nat → S5 → Option (Int32 × SL)) (hE : ∀ e u, M e ≠ 0 → E e u = some (M e, (u, o))) : ∃ (c : Int32) (u : S5) (o' : Nat → Int64) (v : Int32) (σ' : St), C.bind (fun q1 => exL q1.1 (fun r1 => if r1 = 0 then bnd (vp_updL o (Int32.toNatClampNeg 0) 0) (fun o1 => some (0, (q1.2, o1))) else bnd (vp_updL o (Int32.toNatClampNeg 0) 1) (fun o1 => some (0, (q1.2, o1)))) (fun k => E k q1.2)) = some (c, (u, o')) ∧ R = some (v, σ') ∧ σ' 0 0 = c ∧ Inv w u.1 u.2.1 u.2.2.1 u.2.2.2.2 σ' ∧ (c = 0 → (v = 0 → o' (Int32.toNatClampNeg 0) = 0) ∧ (¬ v = 0 → o' (Int32.toNatClampNeg 0) = 1)) := by
  obtain ⟨r, x, y, t, k, b, v, σ', h1, h2, h3, h4⟩ := h
  rcases h4 with ⟨a, rfl, h0, rfl⟩ | ⟨e, rfl, h0, hne⟩
  · by_cases z : v = 0
    · refine ⟨0, (x, y, t, k, b), vp_updL o (Int32.toNatClampNeg 0) 0, v, σ', ?_, h2, h0, h3, fun _ => ⟨fun _ => by rw [vp_updL, if_pos rfl], fun q => absurd z q⟩⟩
      rw [h1]
      exact ip z rfl
    · refine ⟨0, (x, y, t, k, b), vp_updL o (Int32.toNatClampNeg 0) 1, v, σ', ?_, h2, h0, h3, fun _ => ⟨fun q => absurd q z, fun _ => by rw [vp_updL, if_pos rfl]⟩⟩
      rw [h1]
      exact iN z rfl
  · refine ⟨M e, (x, y, t, k, b), o, v, σ', ?_, h2, h0, h3, fun q => absurd q hne⟩
    rw [h1]
    exact hE e _ hne
theorem cmp_eq {a b : Int64} (h : a = b) : lg_cmp a b = 0 := (lg_cmp_eq a b).mpr h
theorem law_0 {N L w : Nat} {xs : Nat → Int32} {K : Int32 → S5 → (Nat → Int64) → St → Option Int32} {x y t k b σ : St} {o : Nat → Int64} (hN : 34100 < N) (hL : L ≤ 2048) (hi : 4 * w + 4 ≤ L) (hI : Inv w x y t b σ) (hK : ∀ (u : S5) (o' : Nat → Int64) (σ' : St), Inv (w + 1) u.1 u.2.1 u.2.2.1 u.2.2.2.2 σ' → K (nI (4 * w + 4)) u o' σ' = some 1) : g_law_0 N xs L K (nI (4 * w)) (x, y, t, k, b) o σ = some 1 := by
  have hw : w < 512 := by omega
  obtain ⟨c, u, o', v, σ', h1, h2, h3, h4, h5⟩ := Lint (o := o) (constructor_sim (N := N) (k := k)  hI (xs (4 * w + 1))) (fun k u => if k = 0 then some (1, (u, o)) else if k = 1 then some (2, (u, o)) else none) (fun e u he => by
    have hd : e = 0 ∨ e = 1 := by
      apply Classical.byContradiction
      intro q
      apply he
      show (if e = 0 then 1 else if e = 1 then 2 else 0) = (0 : Int32)
      rw [if_neg (fun z => q (Or.inl z)), if_neg (fun z => q (Or.inr z))]
    rcases hd with rfl | rfl
    all_goals rfl)
  have h1' : f_L_constructor N x y t k b o (xs (4 * w + 1)) = some (c, (u, o')) := by rw [f_L_constructor]; exact h1
  have hth : f_X5_thrown N σ' = some (c, σ') := by rw [f_X5_thrown, h3]
  have b1 : ¬ (nI (4 * w + 1) < 0 ∨ L ≤ (nI (4 * w + 1)).toNatClampNeg) := nI_in (by omega) (by omega)
  have d1 : (nI (4 * w + 1)).toNatClampNeg = 4 * w + 1 := nI_clamp (by omega)
  rw [d1] at b1
  have hKK := hK u o' σ' h4
  rewrite [g_law_0, show nI (4 * w) + 1 = nI (4 * w + 1) from nI_add (4 * w) 1, show nI (4 * w) + 4 = nI (4 * w + 4) from nI_add (4 * w) 4, d1]
  refine iN b1 (bs h1' (iN b1 (?_)))
  refine bs h2 (bs hth (ip rfl ?_))
  by_cases c0 : c = 0
  · refine ip c0 ?_
    exact ip (cmp_eq (h5 c0)) hKK
  · exact iN c0 hKK
theorem law_1 {N L w : Nat} {xs : Nat → Int32} {K : Int32 → S5 → (Nat → Int64) → St → Option Int32} {x y t k b σ : St} {o : Nat → Int64} (hN : 34100 < N) (hL : L ≤ 2048) (hi : 4 * w + 4 ≤ L) (hI : Inv w x y t b σ) (hK : ∀ (u : S5) (o' : Nat → Int64) (σ' : St), Inv (w + 1) u.1 u.2.1 u.2.2.1 u.2.2.2.2 σ' → K (nI (4 * w + 4)) u o' σ' = some 1) : g_law_1 N xs L K (nI (4 * w)) (x, y, t, k, b) o σ = some 1 := by
  have hw : w < 512 := by omega
  obtain ⟨c, u, o', v, σ', h1, h2, h3, h4, h5⟩ := Lint (o := o) (typeVariable_sim (N := N) (k := k) (by omega) hw hI (xs (4 * w + 1))) (fun k u => if k = 0 then some (1, (u, o)) else if k = 1 then some (2, (u, o)) else none) (fun e u he => by
    have hd : e = 0 ∨ e = 1 := by
      apply Classical.byContradiction
      intro q
      apply he
      show (if e = 0 then 1 else if e = 1 then 2 else 0) = (0 : Int32)
      rw [if_neg (fun z => q (Or.inl z)), if_neg (fun z => q (Or.inr z))]
    rcases hd with rfl | rfl
    all_goals rfl)
  have h1' : f_L_typeVariable N x y t k b o (xs (4 * w + 1)) = some (c, (u, o')) := by rw [f_L_typeVariable]; exact h1
  have hth : f_X5_thrown N σ' = some (c, σ') := by rw [f_X5_thrown, h3]
  have b1 : ¬ (nI (4 * w + 1) < 0 ∨ L ≤ (nI (4 * w + 1)).toNatClampNeg) := nI_in (by omega) (by omega)
  have d1 : (nI (4 * w + 1)).toNatClampNeg = 4 * w + 1 := nI_clamp (by omega)
  rw [d1] at b1
  have hKK := hK u o' σ' h4
  rewrite [g_law_1, show nI (4 * w) + 1 = nI (4 * w + 1) from nI_add (4 * w) 1, show nI (4 * w) + 4 = nI (4 * w + 4) from nI_add (4 * w) 4, d1]
  refine iN b1 (bs h1' (iN b1 (?_)))
  refine bs h2 (bs hth (ip rfl ?_))
  by_cases c0 : c = 0
  · refine ip c0 ?_
    exact ip (cmp_eq (h5 c0)) hKK
  · exact iN c0 hKK
theorem law_2 {N L w : Nat} {xs : Nat → Int32} {K : Int32 → S5 → (Nat → Int64) → St → Option Int32} {x y t k b σ : St} {o : Nat → Int64} (hN : 34100 < N) (hL : L ≤ 2048) (hi : 4 * w + 4 ≤ L) (hI : Inv w x y t b σ) (hK : ∀ (u : S5) (o' : Nat → Int64) (σ' : St), Inv (w + 1) u.1 u.2.1 u.2.2.1 u.2.2.2.2 σ' → K (nI (4 * w + 4)) u o' σ' = some 1) : g_law_2 N xs L K (nI (4 * w)) (x, y, t, k, b) o σ = some 1 := by
  have hw : w < 512 := by omega
  obtain ⟨c, u, o', v, σ', h1, h2, h3, h4, h5⟩ := Lint (o := o) (type_sim (N := N) (k := k) (by omega) hw hI (xs (4 * w + 1)) (xs (4 * w + 2)) (xs (4 * w + 3))) (fun k u => if k = 0 then some (1, (u, o)) else if k = 2 then some (2, (u, o)) else if k = 1 then some (3, (u, o)) else none) (fun e u he => by
    have hd : e = 0 ∨ e = 2 ∨ e = 1 := by
      apply Classical.byContradiction
      intro q
      apply he
      show (if e = 0 then 1 else if e = 2 then 2 else if e = 1 then 3 else 0) = (0 : Int32)
      rw [if_neg (fun z => q (Or.inl z)), if_neg (fun z => q (Or.inr (Or.inl z))), if_neg (fun z => q (Or.inr (Or.inr z)))]
    rcases hd with rfl | rfl | rfl
    all_goals rfl)
  have h1' : f_L_type N x y t k b o (xs (4 * w + 1)) (xs (4 * w + 2)) (xs (4 * w + 3)) = some (c, (u, o')) := by rw [f_L_type]; exact h1
  have hth : f_X5_thrown N σ' = some (c, σ') := by rw [f_X5_thrown, h3]
  have b1 : ¬ (nI (4 * w + 1) < 0 ∨ L ≤ (nI (4 * w + 1)).toNatClampNeg) := nI_in (by omega) (by omega)
  have d1 : (nI (4 * w + 1)).toNatClampNeg = 4 * w + 1 := nI_clamp (by omega)
  rw [d1] at b1
  have b2 : ¬ (nI (4 * w + 2) < 0 ∨ L ≤ (nI (4 * w + 2)).toNatClampNeg) := nI_in (by omega) (by omega)
  have d2 : (nI (4 * w + 2)).toNatClampNeg = 4 * w + 2 := nI_clamp (by omega)
  rw [d2] at b2
  have b3 : ¬ (nI (4 * w + 3) < 0 ∨ L ≤ (nI (4 * w + 3)).toNatClampNeg) := nI_in (by omega) (by omega)
  have d3 : (nI (4 * w + 3)).toNatClampNeg = 4 * w + 3 := nI_clamp (by omega)
  rw [d3] at b3
  have hKK := hK u o' σ' h4
  rewrite [g_law_2, show nI (4 * w) + 1 = nI (4 * w + 1) from nI_add (4 * w) 1, show nI (4 * w) + 2 = nI (4 * w + 2) from nI_add (4 * w) 2, show nI (4 * w) + 3 = nI (4 * w + 3) from nI_add (4 * w) 3, show nI (4 * w) + 4 = nI (4 * w + 4) from nI_add (4 * w) 4, d1, d2, d3]
  refine iN b1 (iN b2 (iN b3 (bs h1' (iN b1 (iN b2 (iN b3 (?_)))))))
  refine bs h2 (bs hth (ip rfl ?_))
  by_cases c0 : c = 0
  · refine ip c0 ?_
    exact ip (cmp_eq (h5 c0)) hKK
  · exact iN c0 hKK
theorem law_3 {N L w : Nat} {xs : Nat → Int32} {K : Int32 → S5 → (Nat → Int64) → St → Option Int32} {x y t k b σ : St} {o : Nat → Int64} (hN : 34100 < N) (hL : L ≤ 2048) (hi : 4 * w + 4 ≤ L) (hI : Inv w x y t b σ) (hK : ∀ (u : S5) (o' : Nat → Int64) (σ' : St), Inv (w + 1) u.1 u.2.1 u.2.2.1 u.2.2.2.2 σ' → K (nI (4 * w + 4)) u o' σ' = some 1) : g_law_3 N xs L K (nI (4 * w)) (x, y, t, k, b) o σ = some 1 := by
  have hw : w < 512 := by omega
  obtain ⟨c, u, o', v, σ', h1, h2, h3, h4, h5⟩ := Lint (o := o) (typeSymbol_sim (N := N) (k := k) (by omega) hw hI (xs (4 * w + 1)) (xs (4 * w + 2))) (fun k u => if k = 2 then some (1, (u, o)) else none) (fun e u he => by
    have hd : e = 2 := by
      apply Classical.byContradiction
      intro q
      apply he
      show (if e = 2 then 1 else 0) = (0 : Int32)
      rw [if_neg (fun z => q (z))]
    rcases hd with rfl
    all_goals rfl)
  have h1' : f_L_typeSymbol N x y t k b o (xs (4 * w + 1)) (xs (4 * w + 2)) = some (c, (u, o')) := by rw [f_L_typeSymbol]; exact h1
  have hth : f_X5_thrown N σ' = some (c, σ') := by rw [f_X5_thrown, h3]
  have b1 : ¬ (nI (4 * w + 1) < 0 ∨ L ≤ (nI (4 * w + 1)).toNatClampNeg) := nI_in (by omega) (by omega)
  have d1 : (nI (4 * w + 1)).toNatClampNeg = 4 * w + 1 := nI_clamp (by omega)
  rw [d1] at b1
  have b2 : ¬ (nI (4 * w + 2) < 0 ∨ L ≤ (nI (4 * w + 2)).toNatClampNeg) := nI_in (by omega) (by omega)
  have d2 : (nI (4 * w + 2)).toNatClampNeg = 4 * w + 2 := nI_clamp (by omega)
  rw [d2] at b2
  have hKK := hK u o' σ' h4
  rewrite [g_law_3, show nI (4 * w) + 1 = nI (4 * w + 1) from nI_add (4 * w) 1, show nI (4 * w) + 2 = nI (4 * w + 2) from nI_add (4 * w) 2, show nI (4 * w) + 4 = nI (4 * w + 4) from nI_add (4 * w) 4, d1, d2]
  refine iN b1 (iN b2 (bs h1' (iN b1 (iN b2 (?_)))))
  refine bs h2 (bs hth (ip rfl ?_))
  by_cases c0 : c = 0
  · refine ip c0 ?_
    exact ip (cmp_eq (h5 c0)) hKK
  · exact iN c0 hKK
theorem law_4 {N L w : Nat} {xs : Nat → Int32} {K : Int32 → S5 → (Nat → Int64) → St → Option Int32} {x y t k b σ : St} {o : Nat → Int64} (hN : 34100 < N) (hL : L ≤ 2048) (hi : 4 * w + 4 ≤ L) (hI : Inv w x y t b σ) (hK : ∀ (u : S5) (o' : Nat → Int64) (σ' : St), Inv (w + 1) u.1 u.2.1 u.2.2.1 u.2.2.2.2 σ' → K (nI (4 * w + 4)) u o' σ' = some 1) : g_law_4 N xs L K (nI (4 * w)) (x, y, t, k, b) o σ = some 1 := by
  have hw : w < 512 := by omega
  obtain ⟨c, u, o', v, σ', h1, h2, h3, h4, h5⟩ := Lint (o := o) (declare_sim (N := N) (k := k) hw hI (xs (4 * w + 1))) (fun k u => if k = 2 then some (1, (u, o)) else if k = 1 then some (2, (u, o)) else none) (fun e u he => by
    have hd : e = 2 ∨ e = 1 := by
      apply Classical.byContradiction
      intro q
      apply he
      show (if e = 2 then 1 else if e = 1 then 2 else 0) = (0 : Int32)
      rw [if_neg (fun z => q (Or.inl z)), if_neg (fun z => q (Or.inr z))]
    rcases hd with rfl | rfl
    all_goals rfl)
  have h1' : f_L_declare N x y t k b o (xs (4 * w + 1)) = some (c, (u, o')) := by rw [f_L_declare]; exact h1
  have hth : f_X5_thrown N σ' = some (c, σ') := by rw [f_X5_thrown, h3]
  have b1 : ¬ (nI (4 * w + 1) < 0 ∨ L ≤ (nI (4 * w + 1)).toNatClampNeg) := nI_in (by omega) (by omega)
  have d1 : (nI (4 * w + 1)).toNatClampNeg = 4 * w + 1 := nI_clamp (by omega)
  rw [d1] at b1
  have hKK := hK u o' σ' h4
  rewrite [g_law_4, show nI (4 * w) + 1 = nI (4 * w + 1) from nI_add (4 * w) 1, show nI (4 * w) + 4 = nI (4 * w + 4) from nI_add (4 * w) 4, d1]
  refine iN b1 (bs h1' (iN b1 (?_)))
  refine bs h2 (bs hth (ip rfl ?_))
  by_cases c0 : c = 0
  · refine ip c0 ?_
    exact ip (cmp_eq (h5 c0)) hKK
  · exact iN c0 hKK
theorem law_5 {N L w : Nat} {xs : Nat → Int32} {K : Int32 → S5 → (Nat → Int64) → St → Option Int32} {x y t k b σ : St} {o : Nat → Int64} (hN : 34100 < N) (hL : L ≤ 2048) (hi : 4 * w + 4 ≤ L) (hI : Inv w x y t b σ) (hK : ∀ (u : S5) (o' : Nat → Int64) (σ' : St), Inv (w + 1) u.1 u.2.1 u.2.2.1 u.2.2.2.2 σ' → K (nI (4 * w + 4)) u o' σ' = some 1) : g_law_5 N xs L K (nI (4 * w)) (x, y, t, k, b) o σ = some 1 := by
  have hw : w < 512 := by omega
  obtain ⟨c, u, o', v, σ', h1, h2, h3, h4, h5⟩ := Lint (o := o) (free_sim (N := N) (k := k) hN hw hI (xs (4 * w + 1)) (xs (4 * w + 2))) (fun k u => if k = 2 then some (1, (u, o)) else if k = 0 then some (2, (u, o)) else if k = 1 then some (3, (u, o)) else none) (fun e u he => by
    have hd : e = 2 ∨ e = 0 ∨ e = 1 := by
      apply Classical.byContradiction
      intro q
      apply he
      show (if e = 2 then 1 else if e = 0 then 2 else if e = 1 then 3 else 0) = (0 : Int32)
      rw [if_neg (fun z => q (Or.inl z)), if_neg (fun z => q (Or.inr (Or.inl z))), if_neg (fun z => q (Or.inr (Or.inr z)))]
    rcases hd with rfl | rfl | rfl
    all_goals rfl)
  have h1' : f_L_free N x y t k b o (xs (4 * w + 1)) (xs (4 * w + 2)) = some (c, (u, o')) := by rw [f_L_free]; exact h1
  have hth : f_X5_thrown N σ' = some (c, σ') := by rw [f_X5_thrown, h3]
  have b1 : ¬ (nI (4 * w + 1) < 0 ∨ L ≤ (nI (4 * w + 1)).toNatClampNeg) := nI_in (by omega) (by omega)
  have d1 : (nI (4 * w + 1)).toNatClampNeg = 4 * w + 1 := nI_clamp (by omega)
  rw [d1] at b1
  have b2 : ¬ (nI (4 * w + 2) < 0 ∨ L ≤ (nI (4 * w + 2)).toNatClampNeg) := nI_in (by omega) (by omega)
  have d2 : (nI (4 * w + 2)).toNatClampNeg = 4 * w + 2 := nI_clamp (by omega)
  rw [d2] at b2
  have hKK := hK u o' σ' h4
  rewrite [g_law_5, show nI (4 * w) + 1 = nI (4 * w + 1) from nI_add (4 * w) 1, show nI (4 * w) + 2 = nI (4 * w + 2) from nI_add (4 * w) 2, show nI (4 * w) + 4 = nI (4 * w + 4) from nI_add (4 * w) 4, d1, d2]
  refine iN b1 (iN b2 (bs h1' (iN b1 (iN b2 (?_)))))
  refine bs h2 (bs hth (ip rfl ?_))
  by_cases c0 : c = 0
  · refine ip c0 ?_
    exact ip (cmp_eq (h5 c0)) hKK
  · exact iN c0 hKK
theorem law_6 {N L w : Nat} {xs : Nat → Int32} {K : Int32 → S5 → (Nat → Int64) → St → Option Int32} {x y t k b σ : St} {o : Nat → Int64} (hN : 34100 < N) (hL : L ≤ 2048) (hi : 4 * w + 4 ≤ L) (hI : Inv w x y t b σ) (hK : ∀ (u : S5) (o' : Nat → Int64) (σ' : St), Inv (w + 1) u.1 u.2.1 u.2.2.1 u.2.2.2.2 σ' → K (nI (4 * w + 4)) u o' σ' = some 1) : g_law_6 N xs L K (nI (4 * w)) (x, y, t, k, b) o σ = some 1 := by
  have hw : w < 512 := by omega
  obtain ⟨c, u, o', v, σ', h1, h2, h3, h4, h5⟩ := Lint (o := o) (constant_sim (N := N) (k := k) hN hw hI (xs (4 * w + 1)) (xs (4 * w + 2))) (fun k u => if k = 2 then some (1, (u, o)) else if k = 0 then some (2, (u, o)) else if k = 1 then some (3, (u, o)) else none) (fun e u he => by
    have hd : e = 2 ∨ e = 0 ∨ e = 1 := by
      apply Classical.byContradiction
      intro q
      apply he
      show (if e = 2 then 1 else if e = 0 then 2 else if e = 1 then 3 else 0) = (0 : Int32)
      rw [if_neg (fun z => q (Or.inl z)), if_neg (fun z => q (Or.inr (Or.inl z))), if_neg (fun z => q (Or.inr (Or.inr z)))]
    rcases hd with rfl | rfl | rfl
    all_goals rfl)
  have h1' : f_L_constant N x y t k b o (xs (4 * w + 1)) (xs (4 * w + 2)) = some (c, (u, o')) := by rw [f_L_constant]; exact h1
  have hth : f_X5_thrown N σ' = some (c, σ') := by rw [f_X5_thrown, h3]
  have b1 : ¬ (nI (4 * w + 1) < 0 ∨ L ≤ (nI (4 * w + 1)).toNatClampNeg) := nI_in (by omega) (by omega)
  have d1 : (nI (4 * w + 1)).toNatClampNeg = 4 * w + 1 := nI_clamp (by omega)
  rw [d1] at b1
  have b2 : ¬ (nI (4 * w + 2) < 0 ∨ L ≤ (nI (4 * w + 2)).toNatClampNeg) := nI_in (by omega) (by omega)
  have d2 : (nI (4 * w + 2)).toNatClampNeg = 4 * w + 2 := nI_clamp (by omega)
  rw [d2] at b2
  have hKK := hK u o' σ' h4
  rewrite [g_law_6, show nI (4 * w) + 1 = nI (4 * w + 1) from nI_add (4 * w) 1, show nI (4 * w) + 2 = nI (4 * w + 2) from nI_add (4 * w) 2, show nI (4 * w) + 4 = nI (4 * w + 4) from nI_add (4 * w) 4, d1, d2]
  refine iN b1 (iN b2 (bs h1' (iN b1 (iN b2 (?_)))))
  refine bs h2 (bs hth (ip rfl ?_))
  by_cases c0 : c = 0
  · refine ip c0 ?_
    exact ip (cmp_eq (h5 c0)) hKK
  · exact iN c0 hKK
theorem law_7 {N L w : Nat} {xs : Nat → Int32} {K : Int32 → S5 → (Nat → Int64) → St → Option Int32} {x y t k b σ : St} {o : Nat → Int64} (hN : 34100 < N) (hL : L ≤ 2048) (hi : 4 * w + 4 ≤ L) (hI : Inv w x y t b σ) (hK : ∀ (u : S5) (o' : Nat → Int64) (σ' : St), Inv (w + 1) u.1 u.2.1 u.2.2.1 u.2.2.2.2 σ' → K (nI (4 * w + 4)) u o' σ' = some 1) : g_law_7 N xs L K (nI (4 * w)) (x, y, t, k, b) o σ = some 1 := by
  have hw : w < 512 := by omega
  obtain ⟨c, u, o', v, σ', h1, h2, h3, h4, h5⟩ := Lint (o := o) (apply_sim (N := N) (k := k) hN hw hI (xs (4 * w + 1)) (xs (4 * w + 2))) (fun k u => if k = 2 then some (1, (u, o)) else if k = 0 then some (2, (u, o)) else if k = 1 then some (3, (u, o)) else none) (fun e u he => by
    have hd : e = 2 ∨ e = 0 ∨ e = 1 := by
      apply Classical.byContradiction
      intro q
      apply he
      show (if e = 2 then 1 else if e = 0 then 2 else if e = 1 then 3 else 0) = (0 : Int32)
      rw [if_neg (fun z => q (Or.inl z)), if_neg (fun z => q (Or.inr (Or.inl z))), if_neg (fun z => q (Or.inr (Or.inr z)))]
    rcases hd with rfl | rfl | rfl
    all_goals rfl)
  have h1' : f_L_apply N x y t k b o (xs (4 * w + 1)) (xs (4 * w + 2)) = some (c, (u, o')) := by rw [f_L_apply]; exact h1
  have hth : f_X5_thrown N σ' = some (c, σ') := by rw [f_X5_thrown, h3]
  have b1 : ¬ (nI (4 * w + 1) < 0 ∨ L ≤ (nI (4 * w + 1)).toNatClampNeg) := nI_in (by omega) (by omega)
  have d1 : (nI (4 * w + 1)).toNatClampNeg = 4 * w + 1 := nI_clamp (by omega)
  rw [d1] at b1
  have b2 : ¬ (nI (4 * w + 2) < 0 ∨ L ≤ (nI (4 * w + 2)).toNatClampNeg) := nI_in (by omega) (by omega)
  have d2 : (nI (4 * w + 2)).toNatClampNeg = 4 * w + 2 := nI_clamp (by omega)
  rw [d2] at b2
  have hKK := hK u o' σ' h4
  rewrite [g_law_7, show nI (4 * w) + 1 = nI (4 * w + 1) from nI_add (4 * w) 1, show nI (4 * w) + 2 = nI (4 * w + 2) from nI_add (4 * w) 2, show nI (4 * w) + 4 = nI (4 * w + 4) from nI_add (4 * w) 4, d1, d2]
  refine iN b1 (iN b2 (bs h1' (iN b1 (iN b2 (?_)))))
  refine bs h2 (bs hth (ip rfl ?_))
  by_cases c0 : c = 0
  · refine ip c0 ?_
    exact ip (cmp_eq (h5 c0)) hKK
  · exact iN c0 hKK
theorem law_8 {N L w : Nat} {xs : Nat → Int32} {K : Int32 → S5 → (Nat → Int64) → St → Option Int32} {x y t k b σ : St} {o : Nat → Int64} (hN : 34100 < N) (hL : L ≤ 2048) (hi : 4 * w + 4 ≤ L) (hI : Inv w x y t b σ) (hK : ∀ (u : S5) (o' : Nat → Int64) (σ' : St), Inv (w + 1) u.1 u.2.1 u.2.2.1 u.2.2.2.2 σ' → K (nI (4 * w + 4)) u o' σ' = some 1) : g_law_8 N xs L K (nI (4 * w)) (x, y, t, k, b) o σ = some 1 := by
  have hw : w < 512 := by omega
  obtain ⟨c, u, o', v, σ', h1, h2, h3, h4, h5⟩ := Lint (o := o) (abstraction_sim (N := N) (k := k) hN hw hI (xs (4 * w + 1)) (xs (4 * w + 2))) (fun k u => if k = 2 then some (1, (u, o)) else if k = 0 then some (2, (u, o)) else if k = 1 then some (3, (u, o)) else none) (fun e u he => by
    have hd : e = 2 ∨ e = 0 ∨ e = 1 := by
      apply Classical.byContradiction
      intro q
      apply he
      show (if e = 2 then 1 else if e = 0 then 2 else if e = 1 then 3 else 0) = (0 : Int32)
      rw [if_neg (fun z => q (Or.inl z)), if_neg (fun z => q (Or.inr (Or.inl z))), if_neg (fun z => q (Or.inr (Or.inr z)))]
    rcases hd with rfl | rfl | rfl
    all_goals rfl)
  have h1' : f_L_abstraction N x y t k b o (xs (4 * w + 1)) (xs (4 * w + 2)) = some (c, (u, o')) := by rw [f_L_abstraction]; exact h1
  have hth : f_X5_thrown N σ' = some (c, σ') := by rw [f_X5_thrown, h3]
  have b1 : ¬ (nI (4 * w + 1) < 0 ∨ L ≤ (nI (4 * w + 1)).toNatClampNeg) := nI_in (by omega) (by omega)
  have d1 : (nI (4 * w + 1)).toNatClampNeg = 4 * w + 1 := nI_clamp (by omega)
  rw [d1] at b1
  have b2 : ¬ (nI (4 * w + 2) < 0 ∨ L ≤ (nI (4 * w + 2)).toNatClampNeg) := nI_in (by omega) (by omega)
  have d2 : (nI (4 * w + 2)).toNatClampNeg = 4 * w + 2 := nI_clamp (by omega)
  rw [d2] at b2
  have hKK := hK u o' σ' h4
  rewrite [g_law_8, show nI (4 * w) + 1 = nI (4 * w + 1) from nI_add (4 * w) 1, show nI (4 * w) + 2 = nI (4 * w + 2) from nI_add (4 * w) 2, show nI (4 * w) + 4 = nI (4 * w + 4) from nI_add (4 * w) 4, d1, d2]
  refine iN b1 (iN b2 (bs h1' (iN b1 (iN b2 (?_)))))
  refine bs h2 (bs hth (ip rfl ?_))
  by_cases c0 : c = 0
  · refine ip c0 ?_
    exact ip (cmp_eq (h5 c0)) hKK
  · exact iN c0 hKK
theorem law_9 {N L w : Nat} {xs : Nat → Int32} {K : Int32 → S5 → (Nat → Int64) → St → Option Int32} {x y t k b σ : St} {o : Nat → Int64} (hN : 34100 < N) (hL : L ≤ 2048) (hi : 4 * w + 4 ≤ L) (hI : Inv w x y t b σ) (hK : ∀ (u : S5) (o' : Nat → Int64) (σ' : St), Inv (w + 1) u.1 u.2.1 u.2.2.1 u.2.2.2.2 σ' → K (nI (4 * w + 4)) u o' σ' = some 1) : g_law_9 N xs L K (nI (4 * w)) (x, y, t, k, b) o σ = some 1 := by
  have hw : w < 512 := by omega
  obtain ⟨c, u, o', v, σ', h1, h2, h3, h4, h5⟩ := Lint (o := o) (part_sim (N := N) (k := k) hN hw hI (xs (4 * w + 1)) (xs (4 * w + 2))) (fun k u => if k = 2 then some (1, (u, o)) else if k = 0 then some (2, (u, o)) else if k = 1 then some (3, (u, o)) else none) (fun e u he => by
    have hd : e = 2 ∨ e = 0 ∨ e = 1 := by
      apply Classical.byContradiction
      intro q
      apply he
      show (if e = 2 then 1 else if e = 0 then 2 else if e = 1 then 3 else 0) = (0 : Int32)
      rw [if_neg (fun z => q (Or.inl z)), if_neg (fun z => q (Or.inr (Or.inl z))), if_neg (fun z => q (Or.inr (Or.inr z)))]
    rcases hd with rfl | rfl | rfl
    all_goals rfl)
  have h1' : f_L_part N x y t k b o (xs (4 * w + 1)) (xs (4 * w + 2)) = some (c, (u, o')) := by rw [f_L_part]; exact h1
  have hth : f_X5_thrown N σ' = some (c, σ') := by rw [f_X5_thrown, h3]
  have b1 : ¬ (nI (4 * w + 1) < 0 ∨ L ≤ (nI (4 * w + 1)).toNatClampNeg) := nI_in (by omega) (by omega)
  have d1 : (nI (4 * w + 1)).toNatClampNeg = 4 * w + 1 := nI_clamp (by omega)
  rw [d1] at b1
  have b2 : ¬ (nI (4 * w + 2) < 0 ∨ L ≤ (nI (4 * w + 2)).toNatClampNeg) := nI_in (by omega) (by omega)
  have d2 : (nI (4 * w + 2)).toNatClampNeg = 4 * w + 2 := nI_clamp (by omega)
  rw [d2] at b2
  have hKK := hK u o' σ' h4
  rewrite [g_law_9, show nI (4 * w) + 1 = nI (4 * w + 1) from nI_add (4 * w) 1, show nI (4 * w) + 2 = nI (4 * w + 2) from nI_add (4 * w) 2, show nI (4 * w) + 4 = nI (4 * w + 4) from nI_add (4 * w) 4, d1, d2]
  refine iN b1 (iN b2 (bs h1' (iN b1 (iN b2 (?_)))))
  refine bs h2 (bs hth (ip rfl ?_))
  by_cases c0 : c = 0
  · refine ip c0 ?_
    exact ip (cmp_eq (h5 c0)) hKK
  · exact iN c0 hKK
theorem law_10 {N L w : Nat} {xs : Nat → Int32} {K : Int32 → S5 → (Nat → Int64) → St → Option Int32} {x y t k b σ : St} {o : Nat → Int64} (hN : 34100 < N) (hL : L ≤ 2048) (hi : 4 * w + 4 ≤ L) (hI : Inv w x y t b σ) (hK : ∀ (u : S5) (o' : Nat → Int64) (σ' : St), Inv (w + 1) u.1 u.2.1 u.2.2.1 u.2.2.2.2 σ' → K (nI (4 * w + 4)) u o' σ' = some 1) : g_law_10 N xs L K (nI (4 * w)) (x, y, t, k, b) o σ = some 1 := by
  have hw : w < 512 := by omega
  obtain ⟨c, u, o', v, σ', h1, h2, h3, h4, h5⟩ := Lint (o := o) (open_sim (N := N) (k := k) hN hw hI (xs (4 * w + 1)) (xs (4 * w + 2))) (fun k u => if k = 2 then some (1, (u, o)) else if k = 0 then some (2, (u, o)) else if k = 1 then some (3, (u, o)) else none) (fun e u he => by
    have hd : e = 2 ∨ e = 0 ∨ e = 1 := by
      apply Classical.byContradiction
      intro q
      apply he
      show (if e = 2 then 1 else if e = 0 then 2 else if e = 1 then 3 else 0) = (0 : Int32)
      rw [if_neg (fun z => q (Or.inl z)), if_neg (fun z => q (Or.inr (Or.inl z))), if_neg (fun z => q (Or.inr (Or.inr z)))]
    rcases hd with rfl | rfl | rfl
    all_goals rfl)
  have h1' : f_L_open N x y t k b o (xs (4 * w + 1)) (xs (4 * w + 2)) = some (c, (u, o')) := by rw [f_L_open]; exact h1
  have hth : f_X5_thrown N σ' = some (c, σ') := by rw [f_X5_thrown, h3]
  have b1 : ¬ (nI (4 * w + 1) < 0 ∨ L ≤ (nI (4 * w + 1)).toNatClampNeg) := nI_in (by omega) (by omega)
  have d1 : (nI (4 * w + 1)).toNatClampNeg = 4 * w + 1 := nI_clamp (by omega)
  rw [d1] at b1
  have b2 : ¬ (nI (4 * w + 2) < 0 ∨ L ≤ (nI (4 * w + 2)).toNatClampNeg) := nI_in (by omega) (by omega)
  have d2 : (nI (4 * w + 2)).toNatClampNeg = 4 * w + 2 := nI_clamp (by omega)
  rw [d2] at b2
  have hKK := hK u o' σ' h4
  rewrite [g_law_10, show nI (4 * w) + 1 = nI (4 * w + 1) from nI_add (4 * w) 1, show nI (4 * w) + 2 = nI (4 * w + 2) from nI_add (4 * w) 2, show nI (4 * w) + 4 = nI (4 * w + 4) from nI_add (4 * w) 4, d1, d2]
  refine iN b1 (iN b2 (bs h1' (iN b1 (iN b2 (?_)))))
  refine bs h2 (bs hth (ip rfl ?_))
  by_cases c0 : c = 0
  · refine ip c0 ?_
    exact ip (cmp_eq (h5 c0)) hKK
  · exact iN c0 hKK
theorem law_11 {N L w : Nat} {xs : Nat → Int32} {K : Int32 → S5 → (Nat → Int64) → St → Option Int32} {x y t k b σ : St} {o : Nat → Int64} (hN : 34100 < N) (hL : L ≤ 2048) (hi : 4 * w + 4 ≤ L) (hI : Inv w x y t b σ) (hK : ∀ (u : S5) (o' : Nat → Int64) (σ' : St), Inv (w + 1) u.1 u.2.1 u.2.2.1 u.2.2.2.2 σ' → K (nI (4 * w + 4)) u o' σ' = some 1) : g_law_11 N xs L K (nI (4 * w)) (x, y, t, k, b) o σ = some 1 := by
  have hw : w < 512 := by omega
  obtain ⟨c, u, o', v, σ', h1, h2, h3, h4, h5⟩ := Lint (o := o) (put_sim (N := N) (k := k) hN hw hI (xs (4 * w + 1)) (xs (4 * w + 2)) (xs (4 * w + 3))) (fun k u => if k = 2 then some (1, (u, o)) else if k = 0 then some (2, (u, o)) else if k = 1 then some (3, (u, o)) else none) (fun e u he => by
    have hd : e = 2 ∨ e = 0 ∨ e = 1 := by
      apply Classical.byContradiction
      intro q
      apply he
      show (if e = 2 then 1 else if e = 0 then 2 else if e = 1 then 3 else 0) = (0 : Int32)
      rw [if_neg (fun z => q (Or.inl z)), if_neg (fun z => q (Or.inr (Or.inl z))), if_neg (fun z => q (Or.inr (Or.inr z)))]
    rcases hd with rfl | rfl | rfl
    all_goals rfl)
  have h1' : f_L_put N x y t k b o (xs (4 * w + 1)) (xs (4 * w + 2)) (xs (4 * w + 3)) = some (c, (u, o')) := by rw [f_L_put]; exact h1
  have hth : f_X5_thrown N σ' = some (c, σ') := by rw [f_X5_thrown, h3]
  have b1 : ¬ (nI (4 * w + 1) < 0 ∨ L ≤ (nI (4 * w + 1)).toNatClampNeg) := nI_in (by omega) (by omega)
  have d1 : (nI (4 * w + 1)).toNatClampNeg = 4 * w + 1 := nI_clamp (by omega)
  rw [d1] at b1
  have b2 : ¬ (nI (4 * w + 2) < 0 ∨ L ≤ (nI (4 * w + 2)).toNatClampNeg) := nI_in (by omega) (by omega)
  have d2 : (nI (4 * w + 2)).toNatClampNeg = 4 * w + 2 := nI_clamp (by omega)
  rw [d2] at b2
  have b3 : ¬ (nI (4 * w + 3) < 0 ∨ L ≤ (nI (4 * w + 3)).toNatClampNeg) := nI_in (by omega) (by omega)
  have d3 : (nI (4 * w + 3)).toNatClampNeg = 4 * w + 3 := nI_clamp (by omega)
  rw [d3] at b3
  have hKK := hK u o' σ' h4
  rewrite [g_law_11, show nI (4 * w) + 1 = nI (4 * w + 1) from nI_add (4 * w) 1, show nI (4 * w) + 2 = nI (4 * w + 2) from nI_add (4 * w) 2, show nI (4 * w) + 3 = nI (4 * w + 3) from nI_add (4 * w) 3, show nI (4 * w) + 4 = nI (4 * w + 4) from nI_add (4 * w) 4, d1, d2, d3]
  refine iN b1 (iN b2 (iN b3 (bs h1' (iN b1 (iN b2 (iN b3 (?_)))))))
  refine bs h2 (bs hth (ip rfl ?_))
  by_cases c0 : c = 0
  · refine ip c0 ?_
    exact ip (cmp_eq (h5 c0)) hKK
  · exact iN c0 hKK
theorem law_12 {N L w : Nat} {xs : Nat → Int32} {K : Int32 → S5 → (Nat → Int64) → St → Option Int32} {x y t k b σ : St} {o : Nat → Int64} (hN : 34100 < N) (hL : L ≤ 2048) (hi : 4 * w + 4 ≤ L) (hI : Inv w x y t b σ) (hK : ∀ (u : S5) (o' : Nat → Int64) (σ' : St), Inv (w + 1) u.1 u.2.1 u.2.2.1 u.2.2.2.2 σ' → K (nI (4 * w + 4)) u o' σ' = some 1) : g_law_12 N xs L K (nI (4 * w)) (x, y, t, k, b) o σ = some 1 := by
  have hw : w < 512 := by omega
  obtain ⟨c, u, o', v, σ', h1, h2, h3, h4, h5⟩ := Lint (o := o) (retype_sim (N := N) (k := k) hN hw hI (xs (4 * w + 1)) (xs (4 * w + 2)) (xs (4 * w + 3))) (fun k u => if k = 2 then some (1, (u, o)) else if k = 0 then some (2, (u, o)) else if k = 1 then some (3, (u, o)) else none) (fun e u he => by
    have hd : e = 2 ∨ e = 0 ∨ e = 1 := by
      apply Classical.byContradiction
      intro q
      apply he
      show (if e = 2 then 1 else if e = 0 then 2 else if e = 1 then 3 else 0) = (0 : Int32)
      rw [if_neg (fun z => q (Or.inl z)), if_neg (fun z => q (Or.inr (Or.inl z))), if_neg (fun z => q (Or.inr (Or.inr z)))]
    rcases hd with rfl | rfl | rfl
    all_goals rfl)
  have h1' : f_L_retype N x y t k b o (xs (4 * w + 1)) (xs (4 * w + 2)) (xs (4 * w + 3)) = some (c, (u, o')) := by rw [f_L_retype]; exact h1
  have hth : f_X5_thrown N σ' = some (c, σ') := by rw [f_X5_thrown, h3]
  have b1 : ¬ (nI (4 * w + 1) < 0 ∨ L ≤ (nI (4 * w + 1)).toNatClampNeg) := nI_in (by omega) (by omega)
  have d1 : (nI (4 * w + 1)).toNatClampNeg = 4 * w + 1 := nI_clamp (by omega)
  rw [d1] at b1
  have b2 : ¬ (nI (4 * w + 2) < 0 ∨ L ≤ (nI (4 * w + 2)).toNatClampNeg) := nI_in (by omega) (by omega)
  have d2 : (nI (4 * w + 2)).toNatClampNeg = 4 * w + 2 := nI_clamp (by omega)
  rw [d2] at b2
  have b3 : ¬ (nI (4 * w + 3) < 0 ∨ L ≤ (nI (4 * w + 3)).toNatClampNeg) := nI_in (by omega) (by omega)
  have d3 : (nI (4 * w + 3)).toNatClampNeg = 4 * w + 3 := nI_clamp (by omega)
  rw [d3] at b3
  have hKK := hK u o' σ' h4
  rewrite [g_law_12, show nI (4 * w) + 1 = nI (4 * w + 1) from nI_add (4 * w) 1, show nI (4 * w) + 2 = nI (4 * w + 2) from nI_add (4 * w) 2, show nI (4 * w) + 3 = nI (4 * w + 3) from nI_add (4 * w) 3, show nI (4 * w) + 4 = nI (4 * w + 4) from nI_add (4 * w) 4, d1, d2, d3]
  refine iN b1 (iN b2 (iN b3 (bs h1' (iN b1 (iN b2 (iN b3 (?_)))))))
  refine bs h2 (bs hth (ip rfl ?_))
  by_cases c0 : c = 0
  · refine ip c0 ?_
    exact ip (cmp_eq (h5 c0)) hKK
  · exact iN c0 hKK
theorem law_13 {N L w : Nat} {xs : Nat → Int32} {K : Int32 → S5 → (Nat → Int64) → St → Option Int32} {x y t k b σ : St} {o : Nat → Int64} (hN : 34100 < N) (hL : L ≤ 2048) (hi : 4 * w + 4 ≤ L) (hI : Inv w x y t b σ) (hK : ∀ (u : S5) (o' : Nat → Int64) (σ' : St), Inv (w + 1) u.1 u.2.1 u.2.2.1 u.2.2.2.2 σ' → K (nI (4 * w + 4)) u o' σ' = some 1) : g_law_13 N xs L K (nI (4 * w)) (x, y, t, k, b) o σ = some 1 := by
  have hw : w < 512 := by omega
  obtain ⟨c, u, o', v, σ', h1, h2, h3, h4, h5⟩ := Lint (o := o) (typeOf_sim (N := N) (k := k) (by omega) hw hI (xs (4 * w + 1))) (fun k u => if k = 2 then some (1, (u, o)) else if k = 1 then some (2, (u, o)) else none) (fun e u he => by
    have hd : e = 2 ∨ e = 1 := by
      apply Classical.byContradiction
      intro q
      apply he
      show (if e = 2 then 1 else if e = 1 then 2 else 0) = (0 : Int32)
      rw [if_neg (fun z => q (Or.inl z)), if_neg (fun z => q (Or.inr z))]
    rcases hd with rfl | rfl
    all_goals rfl)
  have h1' : f_L_typeOf N x y t k b o (xs (4 * w + 1)) = some (c, (u, o')) := by rw [f_L_typeOf]; exact h1
  have hth : f_X5_thrown N σ' = some (c, σ') := by rw [f_X5_thrown, h3]
  have b1 : ¬ (nI (4 * w + 1) < 0 ∨ L ≤ (nI (4 * w + 1)).toNatClampNeg) := nI_in (by omega) (by omega)
  have d1 : (nI (4 * w + 1)).toNatClampNeg = 4 * w + 1 := nI_clamp (by omega)
  rw [d1] at b1
  have hKK := hK u o' σ' h4
  rewrite [g_law_13, show nI (4 * w) + 1 = nI (4 * w + 1) from nI_add (4 * w) 1, show nI (4 * w) + 4 = nI (4 * w + 4) from nI_add (4 * w) 4, d1]
  refine iN b1 (bs h1' (iN b1 (?_)))
  refine bs h2 (bs hth (ip rfl ?_))
  by_cases c0 : c = 0
  · refine ip c0 ?_
    exact ip (cmp_eq (h5 c0)) hKK
  · exact iN c0 hKK
theorem law_14 {N L w : Nat} {xs : Nat → Int32} {K : Int32 → S5 → (Nat → Int64) → St → Option Int32} {x y t k b σ : St} {o : Nat → Int64} (hN : 34100 < N) (hL : L ≤ 2048) (hi : 4 * w + 4 ≤ L) (hI : Inv w x y t b σ) (hK : ∀ (u : S5) (o' : Nat → Int64) (σ' : St), Inv (w + 1) u.1 u.2.1 u.2.2.1 u.2.2.2.2 σ' → K (nI (4 * w + 4)) u o' σ' = some 1) : g_law_14 N xs L K (nI (4 * w)) (x, y, t, k, b) o σ = some 1 := by
  have hw : w < 512 := by omega
  obtain ⟨c, u, o', v, σ', h1, h2, h3, h4, h5⟩ := Lint (o := o) (symbol_sim (N := N) (k := k) hw hI (xs (4 * w + 1)) (xs (4 * w + 2))) (fun k u => if k = 2 then some (1, (u, o)) else none) (fun e u he => by
    have hd : e = 2 := by
      apply Classical.byContradiction
      intro q
      apply he
      show (if e = 2 then 1 else 0) = (0 : Int32)
      rw [if_neg (fun z => q (z))]
    rcases hd with rfl
    all_goals rfl)
  have h1' : f_L_symbol N x y t k b o (xs (4 * w + 1)) (xs (4 * w + 2)) = some (c, (u, o')) := by rw [f_L_symbol]; exact h1
  have hth : f_X5_thrown N σ' = some (c, σ') := by rw [f_X5_thrown, h3]
  have b1 : ¬ (nI (4 * w + 1) < 0 ∨ L ≤ (nI (4 * w + 1)).toNatClampNeg) := nI_in (by omega) (by omega)
  have d1 : (nI (4 * w + 1)).toNatClampNeg = 4 * w + 1 := nI_clamp (by omega)
  rw [d1] at b1
  have b2 : ¬ (nI (4 * w + 2) < 0 ∨ L ≤ (nI (4 * w + 2)).toNatClampNeg) := nI_in (by omega) (by omega)
  have d2 : (nI (4 * w + 2)).toNatClampNeg = 4 * w + 2 := nI_clamp (by omega)
  rw [d2] at b2
  have hKK := hK u o' σ' h4
  rewrite [g_law_14, show nI (4 * w) + 1 = nI (4 * w + 1) from nI_add (4 * w) 1, show nI (4 * w) + 2 = nI (4 * w + 2) from nI_add (4 * w) 2, show nI (4 * w) + 4 = nI (4 * w + 4) from nI_add (4 * w) 4, d1, d2]
  refine iN b1 (iN b2 (bs h1' (iN b1 (iN b2 (?_)))))
  refine bs h2 (bs hth (ip rfl ?_))
  by_cases c0 : c = 0
  · refine ip c0 ?_
    exact ip (cmp_eq (h5 c0)) hKK
  · exact iN c0 hKK
theorem law_15 {N L w : Nat} {xs : Nat → Int32} {K : Int32 → S5 → (Nat → Int64) → St → Option Int32} {x y t k b σ : St} {o : Nat → Int64} (hN : 34100 < N) (hL : L ≤ 2048) (hi : 4 * w + 4 ≤ L) (hI : Inv w x y t b σ) (hK : ∀ (u : S5) (o' : Nat → Int64) (σ' : St), Inv (w + 1) u.1 u.2.1 u.2.2.1 u.2.2.2.2 σ' → K (nI (4 * w + 4)) u o' σ' = some 1) : g_law_15 N xs L K (nI (4 * w)) (x, y, t, k, b) o σ = some 1 := by
  have hw : w < 512 := by omega
  obtain ⟨c, u, o', v, σ', h1, h2, h3, h4, h5⟩ := Lint (o := o) (measure_sim (N := N) (k := k) hN hw hI (xs (4 * w + 1)) (xs (4 * w + 2))) (fun k u => if k = 2 then some (1, (u, o)) else if k = 0 then some (2, (u, o)) else none) (fun e u he => by
    have hd : e = 2 ∨ e = 0 := by
      apply Classical.byContradiction
      intro q
      apply he
      show (if e = 2 then 1 else if e = 0 then 2 else 0) = (0 : Int32)
      rw [if_neg (fun z => q (Or.inl z)), if_neg (fun z => q (Or.inr z))]
    rcases hd with rfl | rfl
    all_goals rfl)
  have h1' : f_L_measure N x y t k b o (xs (4 * w + 1)) (xs (4 * w + 2)) = some (c, (u, o')) := by rw [f_L_measure]; exact h1
  have hth : f_X5_thrown N σ' = some (c, σ') := by rw [f_X5_thrown, h3]
  have b1 : ¬ (nI (4 * w + 1) < 0 ∨ L ≤ (nI (4 * w + 1)).toNatClampNeg) := nI_in (by omega) (by omega)
  have d1 : (nI (4 * w + 1)).toNatClampNeg = 4 * w + 1 := nI_clamp (by omega)
  rw [d1] at b1
  have b2 : ¬ (nI (4 * w + 2) < 0 ∨ L ≤ (nI (4 * w + 2)).toNatClampNeg) := nI_in (by omega) (by omega)
  have d2 : (nI (4 * w + 2)).toNatClampNeg = 4 * w + 2 := nI_clamp (by omega)
  rw [d2] at b2
  have hKK := hK u o' σ' h4
  rewrite [g_law_15, show nI (4 * w) + 1 = nI (4 * w + 1) from nI_add (4 * w) 1, show nI (4 * w) + 2 = nI (4 * w + 2) from nI_add (4 * w) 2, show nI (4 * w) + 4 = nI (4 * w + 4) from nI_add (4 * w) 4, d1, d2]
  refine iN b1 (iN b2 (bs h1' (iN b1 (iN b2 (?_)))))
  refine bs h2 (bs hth (ip rfl ?_))
  by_cases c0 : c = 0
  · refine ip c0 ?_
    exact ip (cmp_eq (h5 c0)) hKK
  · exact iN c0 hKK
theorem law_16 {N L w : Nat} {xs : Nat → Int32} {K : Int32 → S5 → (Nat → Int64) → St → Option Int32} {x y t k b σ : St} {o : Nat → Int64} (hN : 34100 < N) (hL : L ≤ 2048) (hi : 4 * w + 4 ≤ L) (hI : Inv w x y t b σ) (hK : ∀ (u : S5) (o' : Nat → Int64) (σ' : St), Inv (w + 1) u.1 u.2.1 u.2.2.1 u.2.2.2.2 σ' → K (nI (4 * w + 4)) u o' σ' = some 1) : g_law_16 N xs L K (nI (4 * w)) (x, y, t, k, b) o σ = some 1 := by
  have hw : w < 512 := by omega
  obtain ⟨c, u, o', v, σ', h1, h2, h3, h4, h5⟩ := Lbool (o := o) (same_sim (N := N) (k := k) hN hw hI (xs (4 * w + 1)) (xs (4 * w + 2))) (fun k u => if k = 2 then some (1, (u, o)) else none) (fun e u he => by
    have hd : e = 2 := by
      apply Classical.byContradiction
      intro q
      apply he
      show (if e = 2 then 1 else 0) = (0 : Int32)
      rw [if_neg (fun z => q (z))]
    rcases hd with rfl
    all_goals rfl)
  have h1' : f_L_same N x y t k b o (xs (4 * w + 1)) (xs (4 * w + 2)) = some (c, (u, o')) := by rw [f_L_same]; exact h1
  have hth : f_X5_thrown N σ' = some (c, σ') := by rw [f_X5_thrown, h3]
  have b1 : ¬ (nI (4 * w + 1) < 0 ∨ L ≤ (nI (4 * w + 1)).toNatClampNeg) := nI_in (by omega) (by omega)
  have d1 : (nI (4 * w + 1)).toNatClampNeg = 4 * w + 1 := nI_clamp (by omega)
  rw [d1] at b1
  have b2 : ¬ (nI (4 * w + 2) < 0 ∨ L ≤ (nI (4 * w + 2)).toNatClampNeg) := nI_in (by omega) (by omega)
  have d2 : (nI (4 * w + 2)).toNatClampNeg = 4 * w + 2 := nI_clamp (by omega)
  rw [d2] at b2
  have hKK := hK u o' σ' h4
  rewrite [g_law_16, show nI (4 * w) + 1 = nI (4 * w + 1) from nI_add (4 * w) 1, show nI (4 * w) + 2 = nI (4 * w + 2) from nI_add (4 * w) 2, show nI (4 * w) + 4 = nI (4 * w + 4) from nI_add (4 * w) 4, d1, d2]
  refine iN b1 (iN b2 (bs h1' (iN b1 (iN b2 (?_)))))
  refine bs h2 (bs hth (ip rfl ?_))
  by_cases c0 : c = 0
  · refine ip c0 ?_
    by_cases v0 : v = 0
    · exact ip v0 (ip (cmp_eq ((h5 c0).1 v0)) hKK)
    · exact iN v0 (ip (cmp_eq ((h5 c0).2 v0)) hKK)
  · exact iN c0 hKK
theorem law_17 {N L w : Nat} {xs : Nat → Int32} {K : Int32 → S5 → (Nat → Int64) → St → Option Int32} {x y t k b σ : St} {o : Nat → Int64} (hN : 34100 < N) (hL : L ≤ 2048) (hi : 4 * w + 4 ≤ L) (hI : Inv w x y t b σ) (hK : ∀ (u : S5) (o' : Nat → Int64) (σ' : St), Inv (w + 1) u.1 u.2.1 u.2.2.1 u.2.2.2.2 σ' → K (nI (4 * w + 4)) u o' σ' = some 1) : g_law_17 N xs L K (nI (4 * w)) (x, y, t, k, b) o σ = some 1 := by
  have hw : w < 512 := by omega
  obtain ⟨c, u, o', v, σ', h1, h2, h3, h4, h5⟩ := Lbool (o := o) (sameType_sim (N := N) (k := k) hw hI (xs (4 * w + 1)) (xs (4 * w + 2))) (fun k u => if k = 2 then some (1, (u, o)) else none) (fun e u he => by
    have hd : e = 2 := by
      apply Classical.byContradiction
      intro q
      apply he
      show (if e = 2 then 1 else 0) = (0 : Int32)
      rw [if_neg (fun z => q (z))]
    rcases hd with rfl
    all_goals rfl)
  have h1' : f_L_sameType N x y t k b o (xs (4 * w + 1)) (xs (4 * w + 2)) = some (c, (u, o')) := by rw [f_L_sameType]; exact h1
  have hth : f_X5_thrown N σ' = some (c, σ') := by rw [f_X5_thrown, h3]
  have b1 : ¬ (nI (4 * w + 1) < 0 ∨ L ≤ (nI (4 * w + 1)).toNatClampNeg) := nI_in (by omega) (by omega)
  have d1 : (nI (4 * w + 1)).toNatClampNeg = 4 * w + 1 := nI_clamp (by omega)
  rw [d1] at b1
  have b2 : ¬ (nI (4 * w + 2) < 0 ∨ L ≤ (nI (4 * w + 2)).toNatClampNeg) := nI_in (by omega) (by omega)
  have d2 : (nI (4 * w + 2)).toNatClampNeg = 4 * w + 2 := nI_clamp (by omega)
  rw [d2] at b2
  have hKK := hK u o' σ' h4
  rewrite [g_law_17, show nI (4 * w) + 1 = nI (4 * w + 1) from nI_add (4 * w) 1, show nI (4 * w) + 2 = nI (4 * w + 2) from nI_add (4 * w) 2, show nI (4 * w) + 4 = nI (4 * w + 4) from nI_add (4 * w) 4, d1, d2]
  refine iN b1 (iN b2 (bs h1' (iN b1 (iN b2 (?_)))))
  refine bs h2 (bs hth (ip rfl ?_))
  by_cases c0 : c = 0
  · refine ip c0 ?_
    by_cases v0 : v = 0
    · exact ip v0 (ip (cmp_eq ((h5 c0).1 v0)) hKK)
    · exact iN v0 (ip (cmp_eq ((h5 c0).2 v0)) hKK)
  · exact iN c0 hKK
theorem law_18 {N L w : Nat} {xs : Nat → Int32} {K : Int32 → S5 → (Nat → Int64) → St → Option Int32} {x y t k b σ : St} {o : Nat → Int64} (hN : 34100 < N) (hL : L ≤ 2048) (hi : 4 * w + 4 ≤ L) (hI : Inv w x y t b σ) (hK : ∀ (u : S5) (o' : Nat → Int64) (σ' : St), Inv (w + 1) u.1 u.2.1 u.2.2.1 u.2.2.2.2 σ' → K (nI (4 * w + 4)) u o' σ' = some 1) : g_law_18 N xs L K (nI (4 * w)) (x, y, t, k, b) o σ = some 1 := by
  have hw : w < 512 := by omega
  obtain ⟨c, u, o', v, σ', h1, h2, h3, h4, h5⟩ := Lbool (o := o) (occurs_sim (N := N) (k := k) hN hw hI (xs (4 * w + 1)) (xs (4 * w + 2))) (fun k u => if k = 2 then some (1, (u, o)) else if k = 0 then some (2, (u, o)) else none) (fun e u he => by
    have hd : e = 2 ∨ e = 0 := by
      apply Classical.byContradiction
      intro q
      apply he
      show (if e = 2 then 1 else if e = 0 then 2 else 0) = (0 : Int32)
      rw [if_neg (fun z => q (Or.inl z)), if_neg (fun z => q (Or.inr z))]
    rcases hd with rfl | rfl
    all_goals rfl)
  have h1' : f_L_occurs N x y t k b o (xs (4 * w + 1)) (xs (4 * w + 2)) = some (c, (u, o')) := by rw [f_L_occurs]; exact h1
  have hth : f_X5_thrown N σ' = some (c, σ') := by rw [f_X5_thrown, h3]
  have b1 : ¬ (nI (4 * w + 1) < 0 ∨ L ≤ (nI (4 * w + 1)).toNatClampNeg) := nI_in (by omega) (by omega)
  have d1 : (nI (4 * w + 1)).toNatClampNeg = 4 * w + 1 := nI_clamp (by omega)
  rw [d1] at b1
  have b2 : ¬ (nI (4 * w + 2) < 0 ∨ L ≤ (nI (4 * w + 2)).toNatClampNeg) := nI_in (by omega) (by omega)
  have d2 : (nI (4 * w + 2)).toNatClampNeg = 4 * w + 2 := nI_clamp (by omega)
  rw [d2] at b2
  have hKK := hK u o' σ' h4
  rewrite [g_law_18, show nI (4 * w) + 1 = nI (4 * w + 1) from nI_add (4 * w) 1, show nI (4 * w) + 2 = nI (4 * w + 2) from nI_add (4 * w) 2, show nI (4 * w) + 4 = nI (4 * w + 4) from nI_add (4 * w) 4, d1, d2]
  refine iN b1 (iN b2 (bs h1' (iN b1 (iN b2 (?_)))))
  refine bs h2 (bs hth (ip rfl ?_))
  by_cases c0 : c = 0
  · refine ip c0 ?_
    by_cases v0 : v = 0
    · exact ip v0 (ip (cmp_eq ((h5 c0).1 v0)) hKK)
    · exact iN v0 (ip (cmp_eq ((h5 c0).2 v0)) hKK)
  · exact iN c0 hKK
theorem law_19 {N L w : Nat} {xs : Nat → Int32} {K : Int32 → S5 → (Nat → Int64) → St → Option Int32} {x y t k b σ : St} {o : Nat → Int64} (hN : 34100 < N) (hL : L ≤ 2048) (hi : 4 * w + 4 ≤ L) (hI : Inv w x y t b σ) (hK : ∀ (u : S5) (o' : Nat → Int64) (σ' : St), Inv (w + 1) u.1 u.2.1 u.2.2.1 u.2.2.2.2 σ' → K (nI (4 * w + 4)) u o' σ' = some 1) : g_law_19 N xs L K (nI (4 * w)) (x, y, t, k, b) o σ = some 1 := by
  have hw : w < 512 := by omega
  obtain ⟨c, u, o', v, σ', h1, h2, h3, h4, h5⟩ := Lint (o := o) (match_sim (N := N) (k := k) hN hw hI (xs (4 * w + 1)) (xs (4 * w + 2))) (fun k u => if k = 2 then some (1, (u, o)) else none) (fun e u he => by
    have hd : e = 2 := by
      apply Classical.byContradiction
      intro q
      apply he
      show (if e = 2 then 1 else 0) = (0 : Int32)
      rw [if_neg (fun z => q (z))]
    rcases hd with rfl
    all_goals rfl)
  have h1' : f_L_match N x y t k b o (xs (4 * w + 1)) (xs (4 * w + 2)) = some (c, (u, o')) := by rw [f_L_match]; exact h1
  have hth : f_X5_thrown N σ' = some (c, σ') := by rw [f_X5_thrown, h3]
  have b1 : ¬ (nI (4 * w + 1) < 0 ∨ L ≤ (nI (4 * w + 1)).toNatClampNeg) := nI_in (by omega) (by omega)
  have d1 : (nI (4 * w + 1)).toNatClampNeg = 4 * w + 1 := nI_clamp (by omega)
  rw [d1] at b1
  have b2 : ¬ (nI (4 * w + 2) < 0 ∨ L ≤ (nI (4 * w + 2)).toNatClampNeg) := nI_in (by omega) (by omega)
  have d2 : (nI (4 * w + 2)).toNatClampNeg = 4 * w + 2 := nI_clamp (by omega)
  rw [d2] at b2
  have hKK := hK u o' σ' h4
  rewrite [g_law_19, show nI (4 * w) + 1 = nI (4 * w + 1) from nI_add (4 * w) 1, show nI (4 * w) + 2 = nI (4 * w + 2) from nI_add (4 * w) 2, show nI (4 * w) + 4 = nI (4 * w + 4) from nI_add (4 * w) 4, d1, d2]
  refine iN b1 (iN b2 (bs h1' (iN b1 (iN b2 (?_)))))
  refine bs h2 (bs hth (ip rfl ?_))
  by_cases c0 : c = 0
  · refine ip c0 ?_
    exact ip (cmp_eq (h5 c0)) hKK
  · exact iN c0 hKK
theorem law_20 {N L w : Nat} {xs : Nat → Int32} {K : Int32 → S5 → (Nat → Int64) → St → Option Int32} {x y t k b σ : St} {o : Nat → Int64} (hN : 34100 < N) (hL : L ≤ 2048) (hi : 4 * w + 4 ≤ L) (hI : Inv w x y t b σ) (hK : ∀ (u : S5) (o' : Nat → Int64) (σ' : St), Inv (w + 1) u.1 u.2.1 u.2.2.1 u.2.2.2.2 σ' → K (nI (4 * w + 4)) u o' σ' = some 1) : g_law_20 N xs L K (nI (4 * w)) (x, y, t, k, b) o σ = some 1 := by
  have hw : w < 512 := by omega
  obtain ⟨c, u, o', v, σ', h1, h2, h3, h4, h5⟩ := Lint (o := o) (matched_sim (N := N) (k := k) hN hw hI (xs (4 * w + 1))) (fun k u => if k = 2 then some (1, (u, o)) else if k = 1 then some (2, (u, o)) else none) (fun e u he => by
    have hd : e = 2 ∨ e = 1 := by
      apply Classical.byContradiction
      intro q
      apply he
      show (if e = 2 then 1 else if e = 1 then 2 else 0) = (0 : Int32)
      rw [if_neg (fun z => q (Or.inl z)), if_neg (fun z => q (Or.inr z))]
    rcases hd with rfl | rfl
    all_goals rfl)
  have h1' : f_L_matched N x y t k b o (xs (4 * w + 1)) = some (c, (u, o')) := by rw [f_L_matched]; exact h1
  have hth : f_X5_thrown N σ' = some (c, σ') := by rw [f_X5_thrown, h3]
  have b1 : ¬ (nI (4 * w + 1) < 0 ∨ L ≤ (nI (4 * w + 1)).toNatClampNeg) := nI_in (by omega) (by omega)
  have d1 : (nI (4 * w + 1)).toNatClampNeg = 4 * w + 1 := nI_clamp (by omega)
  rw [d1] at b1
  have hKK := hK u o' σ' h4
  rewrite [g_law_20, show nI (4 * w) + 1 = nI (4 * w + 1) from nI_add (4 * w) 1, show nI (4 * w) + 4 = nI (4 * w + 4) from nI_add (4 * w) 4, d1]
  refine iN b1 (bs h1' (iN b1 (?_)))
  refine bs h2 (bs hth (ip rfl ?_))
  by_cases c0 : c = 0
  · refine ip c0 ?_
    exact ip (cmp_eq (h5 c0)) hKK
  · exact iN c0 hKK
