/-! PURE: class's and reference's tables hold the same types -/
def Kd (n : Nat) (i : Int32) : Prop := ∃ j, j < n ∧ i = nI j
theorem Kd.kid {n : Nat} {i : Int32} (h : Kd n i) : Kid n i := Or.inr h
theorem Kd.mono {n m : Nat} {i : Int32} (h : Kd n i) (hm : n ≤ m) : Kd m i := by
  obtain ⟨j, hj, e⟩ := h
  exact ⟨j, by omega, e⟩
/-- a tree keeps what its constructor takes -/
def AT (g : Nat → Int32) (q : Nat) (τ : Ty) : Prop := ∃ h A B, τ = nd h A B ∧ ((∃ v, v < 1000 ∧ h = (-1) - nI v ∧ A = Term.null ∧ B = Term.null) ∨ ∃ c, c < q ∧ h = nI c ∧ ((g c = 0 ∧ A = Term.null ∧ B = Term.null) ∨ (g c = 1 ∧ A ≠ Term.null ∧ B = Term.null) ∨ (g c = 2 ∧ A ≠ Term.null ∧ B ≠ Term.null)))
def I1 (n : Nat) (g : Nat → Int32) (q : Nat) (y σ : St) : Prop := TC n y ∧ TM n σ ∧ (∀ k, k < n → ∃ j, j < n ∧ tC y (nI k) = tM σ (nI j)) ∧ (∀ j, j < n → ∃ k, k < n ∧ tC y (nI k) = tM σ (nI j)) ∧ ∀ k, k < n → AT g q (tC y (nI k))
/-- two places of one type -/
def RT (n : Nat) (y σ : St) (i j : Int32) : Prop := Kd n i ∧ Kd n j ∧ tC y i = tM σ j
/-- the trees stay -/
def Mo (n : Nat) (y σ : St) (n' : Nat) (y' σ' : St) : Prop := n ≤ n' ∧ (∀ i, Kid n i → tC y' i = tC y i) ∧ ∀ i, Kid n i → tM σ' i = tM σ i
theorem Mo.rfl {n : Nat} {y σ : St} : Mo n y σ n y σ := ⟨Nat.le_refl _, fun _ _ => Eq.refl _, fun _ _ => Eq.refl _⟩
theorem RT.mono {n n' : Nat} {y σ y' σ' : St} {i j : Int32} (h : RT n y σ i j) (m : Mo n y σ n' y' σ') : RT n' y' σ' i j := by
  obtain ⟨h1, h2, h3⟩ := h
  exact ⟨h1.mono m.1, h2.mono m.1, by rw [m.2.1 i h1.kid, m.2.2 j h2.kid, h3]⟩
theorem RT.iff {n : Nat} {g : Nat → Int32} {q : Nat} {y σ : St} (I : I1 n g q y σ) {i j i' j' : Int32} (h : RT n y σ i j) (h' : RT n y σ i' j') : i = i' ↔ j = j' := by
  obtain ⟨TCn, TMn, -⟩ := I
  have hn := TCn.1
  constructor
  · intro e
    exact tT_inj TMn.2.2.2.1 TMn.2.2.2.2.1 (by omega) _ _ h.2.1.kid h'.2.1.kid (by subst e; exact h.2.2.symm.trans h'.2.2)
  · intro e
    exact tT_inj TCn.2.2.2.1 TCn.2.2.2.2.1 (by omega) _ _ h.1.kid h'.1.kid (by subst e; exact h.2.2.trans h'.2.2.symm)
/-- parts of related places -/
theorem RT.parts {n : Nat} {g : Nat → Int32} {q : Nat} {y σ : St} (I : I1 n g q y σ) {a b : Nat} (ha : a < n) (hb : b < n) (h : tC y (nI a) = tM σ (nI b)) : y 0 a = σ 6 b ∧ tC y (y 1 a) = tM σ (σ 7 b) ∧ tC y (y 2 a) = tM σ (σ 8 b) ∧ Kid a (y 1 a) ∧ Kid a (y 2 a) ∧ Kid b (σ 7 b) ∧ Kid b (σ 8 b) := by
  obtain ⟨TCn, TMn, -⟩ := I
  have hn := TCn.1
  have e1 := tT_nd (hd := y 0) TCn.2.2.2.1 (by omega) ha
  have e2 := tT_nd (hd := σ 6) TMn.2.2.2.1 (by omega) hb
  have h' : tT (y 0) (y 1) (y 2) (nI a) = tT (σ 6) (σ 7) (σ 8) (nI b) := h
  rw [e1, e2] at h'
  obtain ⟨p1, p2, p3⟩ := nd_inj h'
  exact ⟨p1, p2, p3, (TCn.2.2.2.1 a ha).1, (TCn.2.2.2.1 a ha).2, (TMn.2.2.2.1 b hb).1, (TMn.2.2.2.1 b hb).2⟩
theorem null_iffC {n : Nat} {y : St} (T : TC n y) {i : Int32} (h : Kid n i) : tC y i = Term.null ↔ i = -1 := by
  have hn := T.1
  rcases h with rfl | ⟨k, hk, rfl⟩
  · exact ⟨fun _ => rfl, fun _ => tT_m1⟩
  · refine ⟨fun q => ?_, fun q => absurd q (nI_ne_m1 (by omega))⟩
    have e1 := tT_nd (hd := y 0) T.2.2.2.1 (by omega) hk
    exact absurd (e1.symm.trans q) nd_ne
theorem null_iffM {n : Nat} {σ : St} (T : TM n σ) {i : Int32} (h : Kid n i) : tM σ i = Term.null ↔ i = -1 := by
  have hn := T.1
  rcases h with rfl | ⟨k, hk, rfl⟩
  · exact ⟨fun _ => rfl, fun _ => tT_m1⟩
  · refine ⟨fun q => ?_, fun q => absurd q (nI_ne_m1 (by omega))⟩
    have e1 := tT_nd (hd := σ 6) T.2.2.2.1 (by omega) hk
    exact absurd (e1.symm.trans q) nd_ne
theorem I1_restore {n : Nat} {g : Nat → Int32} {q : Nat} {y σ z ζ : St} (I : I1 n g q y σ) (T : TC n z) (M : TM n ζ) (m : Mo n y σ n z ζ) : I1 n g q z ζ := by
  obtain ⟨h1, h2, h3, h4, h5⟩ := I
  have kk : ∀ {k : Nat}, k < n → Kid n (nI k) := fun hk => Or.inr ⟨_, hk, rfl⟩
  refine ⟨T, M, fun k hk => ?_, fun j hj => ?_, fun k hk => ?_⟩
  · obtain ⟨j, hj, e⟩ := h3 k hk
    exact ⟨j, hj, by rw [m.2.1 _ (kk hk), m.2.2 _ (kk hj), e]⟩
  · obtain ⟨k, hk, e⟩ := h4 j hj
    exact ⟨k, hk, by rw [m.2.1 _ (kk hk), m.2.2 _ (kk hj), e]⟩
  · rw [m.2.1 _ (kk hk)]; exact h5 k hk
abbrev FrM (σ σ' : St) : Prop := ∀ r, r ≠ 5 → r ≠ 6 → r ≠ 7 → r ≠ 8 → r ≠ 9 → r ≠ 10 → r ≠ 11 → r ≠ 12 → σ' r = σ r
abbrev FrC (y y' : St) : Prop := ∀ r, r ≠ 0 → r ≠ 1 → r ≠ 2 → r ≠ 3 → r ≠ 4 → r ≠ 5 → r ≠ 6 → r ≠ 10 → y' r = y r
theorem hgM {n : Nat} {g : Nat → Int32} {q : Nat} {y σ : St} (I : I1 n g q y σ) {i : Int32} (h : Kid n i) : hg (tM σ i) ≤ 24 := by
  obtain ⟨h1, h2, h3, h4, h5⟩ := I
  rcases h with rfl | ⟨j, hj, rfl⟩
  · rw [show tM σ (-1) = Term.null from tT_m1, hg_null]; omega
  · obtain ⟨k, hk, e⟩ := h4 j hj
    rw [← e]; exact (h1.2.2.2.2.2 k hk).2.2.2
theorem both_made {N n : Nat} {g : Nat → Int32} {q : Nat} {y σ : St} (I : I1 n g q y σ) (hn : n ≤ 8000) (hN : 16000 < N) {a b a' b' : Int32} (ha : Kid n a) (hb : Kid n b) (ha' : Kid n a') (hb' : Kid n b') (ea : tC y a = tM σ a') (eb : tC y b = tM σ b') (h : Int32) (hat : AT g q (nd h (tC y a) (tC y b))) :
    ∃ (r : Int32) (y1 σ1 : St) (j n1 : Nat), f_X2_made N y h a b = some (r, y1) ∧ f_X5_node N σ h a' b' = some (nI j, σ1) ∧ TM n1 σ1 ∧ j < n1 ∧ n ≤ n1 ∧ tM σ1 (nI j) = nd h (tC y a) (tC y b) ∧ Mo n y σ n1 y1 σ1 ∧ FrM σ σ1 ∧ FrC y y1 ∧
      ((r = -1 ∧ y1 = y ∧ ¬ (sz (nd h (tC y a) (tC y b)) ≤ 200 ∧ hg (nd h (tC y a) (tC y b)) ≤ 24 ∧ n1 ≤ 8000)) ∨ (∃ k, r = nI k ∧ k < n1 ∧ sz (nd h (tC y a) (tC y b)) ≤ 200 ∧ hg (nd h (tC y a) (tC y b)) ≤ 24 ∧ n1 ≤ 8000 ∧ I1 n1 g q y1 σ1 ∧ RT n1 y1 σ1 (nI k) (nI j))) := by
  obtain ⟨T, M, h3, h4, h5⟩ := id I
  obtain ⟨-, h10, hC, hL, hU, hS⟩ := id T
  obtain ⟨r, hF, hr⟩ := made_run (N := N) T (by omega) ha hb h
  have hh : hg (nd h (tM σ a') (tM σ b')) ≤ 16000 := by
    have := hgM I ha'; have := hgM I hb'
    rw [hg_nd]; omega
  have en : nd h (tM σ a') (tM σ b') = nd h (tC y a) (tC y b) := by rw [ea, eb]
  have hfnd : ∀ {k : Nat}, k < n → (y 0 k = h ∧ y 1 k = a ∧ y 2 k = b) → tC y (nI k) = nd h (tC y a) (tC y b) := fun {k} hk q => (tT_is hL hU (by omega) hk ha hb).mpr q
  have kk : ∀ {k : Nat}, k < n → Kid n (nI k) := fun hk => Or.inr ⟨_, hk, rfl⟩
  rcases node_ok (N := N) M (by omega) hN ha' hb' h hh with ⟨j, hj, ej, hnode⟩ | ⟨hno, z, hnode, Mz, ez, oldz, frz⟩
  · -- known
    rw [en] at ej
    obtain ⟨k, hk, ek⟩ := h4 j hj
    have ek' : tC y (nI k) = nd h (tC y a) (tC y b) := ek.trans ej
    have hkk := (tT_is hL hU (by omega) hk ha hb).mp ek'
    have hrk : r = nI k := by
      rcases hF with ⟨k', hk', e0, e1, e2, er⟩ | ⟨hn', -⟩
      · rw [er, hU k' k hk' hk (e0.trans hkk.1.symm) (e1.trans hkk.2.1.symm) (e2.trans hkk.2.2.symm)]
      · exact absurd hkk (hn' k hk)
    have s1 := (hS k hk).2.2.1
    have s2 := (hS k hk).2.2.2
    rw [ek'] at s1 s2
    rw [if_neg (by omega), if_pos s2, if_neg (by rw [hrk]; exact nI_ne_m1 (by omega))] at hr
    exact ⟨r, y, σ, j, n, hr, hnode, M, hj, Nat.le_refl _, ej, Mo.rfl, fun _ _ _ _ _ _ _ _ _ => rfl, fun _ _ _ _ _ _ _ _ _ => rfl, Or.inr ⟨k, hrk, hk, s1, s2, hn, I, ⟨k, hk, rfl⟩, ⟨j, hj, rfl⟩, ek⟩⟩
  · rw [en] at ez
    have hno' : ∀ k, k < n → ¬ (y 0 k = h ∧ y 1 k = a ∧ y 2 k = b) := by
      intro k hk q
      obtain ⟨j, hj, e⟩ := h3 k hk
      exact hno j hj (by rw [en, ← e]; exact hfnd hk q)
    have hr1 : r = -1 := by
      rcases hF with ⟨k', hk', e0, e1, e2, er⟩ | ⟨-, er⟩
      · exact absurd ⟨e0, e1, e2⟩ (hno' k' hk')
      · exact er
    by_cases s1 : sz (nd h (tC y a) (tC y b)) ≤ 200 ∧ hg (nd h (tC y a) (tC y b)) ≤ 24 ∧ n < 8000
    · obtain ⟨s1, s2, s3⟩ := s1
      rw [if_neg (by omega), if_pos s2, if_pos hr1, if_pos s3] at hr
      obtain ⟨c1, c2, c3⟩ := mkC_ok T s3 ha hb hno' s1 s2 rfl
      refine ⟨nI n, _, z, n, n + 1, hr, hnode, Mz, Nat.lt_succ_self n, Nat.le_succ n, ez, ⟨Nat.le_succ n, c3, oldz⟩, frz, ?_, Or.inr ⟨n, rfl, Nat.lt_succ_self n, s1, s2, s3, ⟨c1, Mz, ?_, ?_, ?_⟩, ⟨n, Nat.lt_succ_self n, rfl⟩, ⟨n, Nat.lt_succ_self n, rfl⟩, c2.trans ez.symm⟩⟩
      · intro r a0 a1 a2 a3 a4 a5 a6 a10
        funext i
        rw [mk_row]
        simp [a0, a1, a2, a3, a4, a5, a6, a10]
      · intro k hk
        by_cases e : k = n
        · subst e; exact ⟨k, Nat.lt_succ_self k, c2.trans ez.symm⟩
        · obtain ⟨j, hj, e⟩ := h3 k (by omega)
          exact ⟨j, by omega, by rw [c3 _ (kk (by omega)), oldz _ (kk hj), e]⟩
      · intro k hk
        by_cases e : k = n
        · subst e; exact ⟨k, Nat.lt_succ_self k, c2.trans ez.symm⟩
        · obtain ⟨j, hj, e⟩ := h4 k (by omega)
          exact ⟨j, by omega, by rw [c3 _ (kk hj), oldz _ (kk (by omega)), e]⟩
      · intro k hk
        by_cases e : k = n
        · subst e; rw [c2]; exact hat
        · rw [c3 _ (kk (by omega))]; exact h5 k (by omega)
    · have hr' : f_X2_made N y h a b = some (-1, y) := by
        rw [hr]
        by_cases q1 : 200 < sz (nd h (tC y a) (tC y b))
        · rw [if_pos q1]
        · rw [if_neg q1]
          by_cases q2 : hg (nd h (tC y a) (tC y b)) ≤ 24
          · rw [if_pos q2, if_pos hr1, if_neg (fun q3 => s1 ⟨by omega, q2, q3⟩)]
          · rw [if_neg q2]
      exact ⟨-1, y, z, n, n + 1, hr', hnode, Mz, Nat.lt_succ_self n, Nat.le_succ n, ez, ⟨Nat.le_succ n, fun _ _ => rfl, oldz⟩, frz, fun _ _ _ _ _ _ _ _ _ => rfl, Or.inl ⟨rfl, rfl, fun q => s1 ⟨q.1, q.2.1, by omega⟩⟩⟩
