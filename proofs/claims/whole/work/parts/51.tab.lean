/-! PURE: TypeTable's reads, its search -/
theorem head_in {N i : Nat} {y : St} (h : i < 8000) : f_X2_head N y (nI i) = some (y 0 i, y) := by
  rw [f_X2_head, rd_in h (by omega)]; rfl
theorem head_m1 {N : Nat} {y : St} : f_X2_head N y (-1) = some (-1, y) := by
  rw [f_X2_head, rd_m1]; rfl
theorem first_in {N i : Nat} {y : St} (h : i < 8000) : f_X2_first N y (nI i) = some (y 1 i, y) := by
  rw [f_X2_first, rd_in h (by omega)]; rfl
theorem second_in {N i : Nat} {y : St} (h : i < 8000) : f_X2_second N y (nI i) = some (y 2 i, y) := by
  rw [f_X2_second, rd_in h (by omega)]; rfl
theorem symbols_in {N i : Nat} {y : St} (h : i < 8000) : f_X2_symbols N y (nI i) = some (y 3 i, y) := by
  rw [f_X2_symbols, if_neg (nI_ne_m1 (by omega)), rd_in h (by omega)]; rfl
theorem symbols_m1 {N : Nat} {y : St} : f_X2_symbols N y (-1) = some (0, y) := by
  rw [f_X2_symbols, if_pos rfl]; rfl
theorem height_in {N i : Nat} {y : St} (h : i < 8000) : f_X2_height N y (nI i) = some (y 4 i, y) := by
  rw [f_X2_height, if_neg (nI_ne_m1 (by omega)), rd_in h (by omega)]; rfl
theorem height_m1 {N : Nat} {y : St} : f_X2_height N y (-1) = some (0, y) := by
  rw [f_X2_height, if_pos rfl]; rfl
/-- the class's hash of node k -/
abbrev hY (y : St) : Nat → Nat := fun k => hX (y 0 k) (y 1 k) (y 2 k)
/-- a search's answer r among the first m nodes -/
def Fnd (hd lf rt : Nat → Int32) (m : Nat) (h a b r : Int32) : Prop := (∃ k, k < m ∧ hd k = h ∧ lf k = a ∧ rt k = b ∧ r = nI k) ∨ ((∀ k, k < m → ¬ (hd k = h ∧ lf k = a ∧ rt k = b)) ∧ r = -1)
theorem find_21 {N n : Nat} {y : St} (hn : n ≤ 8000) (h5 : ∀ k, k < n → y 5 k = lst (hY y) k (hY y k)) (h a b : Int32) : ∀ m, m ≤ n → ∀ (left fuel : Nat), m ≤ left → left < 2 ^ 31 → m < fuel → ∃ r, f_X2_find_21 N fuel y h a b (lst (hY y) m (hX h a b)) (nI left) = some (r, y) ∧ Fnd (y 0) (y 1) (y 2) m h a b r := by
  intro m
  induction m with
  | zero =>
    intro _ left fuel _ hl hf
    obtain ⟨f, rfl⟩ : ∃ f, fuel = f + 1 := ⟨fuel - 1, by omega⟩
    refine ⟨-1, ?_, Or.inr ⟨fun k hk => absurd hk (Nat.not_lt_zero k), rfl⟩⟩
    rw [f_X2_find_21]
    by_cases h0 : nI left ≤ 0
    · rw [if_pos h0]; rfl
    · rw [if_neg h0, lst, if_pos rfl]; rfl
  | succ m ih =>
    intro hm left fuel hle hl hf
    obtain ⟨f, rfl⟩ : ∃ f, fuel = f + 1 := ⟨fuel - 1, by omega⟩
    by_cases hc : hY y m = hX h a b
    · have e : lst (hY y) (m + 1) (hX h a b) = nI m := by rw [lst, if_pos hc]
      rw [e, f_X2_find_21, if_neg (nI_nle (by omega) hl), if_neg (nI_ne_m1 (by omega)), rd_in (by omega) (by omega)]
      obtain ⟨lf, rfl⟩ : ∃ q, left = q + 1 := ⟨left - 1, by omega⟩
      have hnext : f_X2_find_74 N (f_X2_find_21 N f) y h a b (nI m) (nI (lf + 1)) = f_X2_find_21 N f y h a b (lst (hY y) m (hX h a b)) (nI lf) := by
        rw [f_X2_find_74, rd_in (by omega) (by omega)]
        show f_X2_find_21 N f y h a b (y 5 m) (nI (lf + 1) + -1) = _
        rw [h5 m (by omega), hc, nI_dec]
      obtain ⟨r, hr, hF⟩ := ih (by omega) lf f (by omega) (by omega) (by omega)
      have hno : ¬ (y 0 m = h ∧ y 1 m = a ∧ y 2 m = b) → Fnd (y 0) (y 1) (y 2) (m + 1) h a b r := by
        intro hne
        rcases hF with ⟨k, hk, h1⟩ | ⟨h1, h2⟩
        · exact Or.inl ⟨k, by omega, h1⟩
        · refine Or.inr ⟨fun k hk => ?_, h2⟩
          by_cases hkm : k = m
          · subst hkm; exact hne
          · exact h1 k (by omega)
      show ∃ r, (if y 0 m = h then (f_X4_read N 8000 (y 1) (nI m)).bind _ else _) = some (r, y) ∧ _
      by_cases e0 : y 0 m = h
      · rw [if_pos e0, rd_in (by omega) (by omega)]
        show ∃ r, (if y 1 m = a then (f_X4_read N 8000 (y 2) (nI m)).bind _ else _) = some (r, y) ∧ _
        by_cases e1 : y 1 m = a
        · rw [if_pos e1, rd_in (by omega) (by omega)]
          show ∃ r, (if y 2 m = b then some (nI m, y) else _) = some (r, y) ∧ _
          by_cases e2 : y 2 m = b
          · rw [if_pos e2]
            exact ⟨nI m, rfl, Or.inl ⟨m, by omega, e0, e1, e2, rfl⟩⟩
          · rw [if_neg e2]
            exact ⟨r, hnext.trans hr, hno (fun q => e2 q.2.2)⟩
        · rw [if_neg e1]
          exact ⟨r, hnext.trans hr, hno (fun q => e1 q.2.1)⟩
      · rw [if_neg e0]
        exact ⟨r, hnext.trans hr, hno (fun q => e0 q.1)⟩
    · have e : lst (hY y) (m + 1) (hX h a b) = lst (hY y) m (hX h a b) := by rw [lst, if_neg hc]
      rw [e]
      obtain ⟨r, hr, hF⟩ := ih (by omega) left (f + 1) (by omega) hl (by omega)
      refine ⟨r, hr, ?_⟩
      rcases hF with ⟨k, hk, h1⟩ | ⟨h1, h2⟩
      · exact Or.inl ⟨k, by omega, h1⟩
      · refine Or.inr ⟨fun k hk => ?_, h2⟩
        by_cases hkm : k = m
        · subst hkm
          intro q
          exact hc (by show hX (y 0 k) (y 1 k) (y 2 k) = _; rw [q.1, q.2.1, q.2.2])
        · exact h1 k (by omega)
/-- the chains of the class's table, n nodes -/
def Chn (n : Nat) (y : St) : Prop := (∀ c, c < 4096 → y 6 c = lst (hY y) n c) ∧ ∀ k, k < n → y 5 k = lst (hY y) k (hY y k)
theorem find_ok {N n : Nat} {y : St} (hn : n ≤ 8000) (hc : Chn n y) (h10 : y 10 0 = nI n) (hN : 8000 < N) (h a b : Int32) : ∃ r, f_X2_find N y h a b = some (r, y) ∧ Fnd (y 0) (y 1) (y 2) n h a b r := by
  obtain ⟨r, hr, hF⟩ := find_21 (N := N) hn hc.2 h a b n (Nat.le_refl _) n N (Nat.le_refl _) (by omega) (by omega)
  refine ⟨r, ?_, hF⟩
  rw [f_X2_find, bucket_eq]
  show (f_X4_read N 4096 (y 6) (nI (hX h a b))).bind _ = _
  rw [rd_in (hX_lt h a b).1 (by omega)]
  show f_X2_find_21 N N y h a b (y 6 (hX h a b)) (y 10 0) = _
  rw [hc.1 _ (hX_lt h a b).1, h10]
  exact hr
