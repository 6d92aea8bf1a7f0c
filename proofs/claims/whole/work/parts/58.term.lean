/-! PURE: terms, as prefix rows of codes: within r binders, of height h, from a to b -/
def Okl (r : Nat) (c : Int32) : Prop := ∃ v : Nat, v < 4000 ∧ c = nI v ∧ ((v % 4 = 0 ∧ v / 4 < r) ∨ v % 4 = 1 ∨ v % 4 = 2)
def Tm (c : Nat → Int32) (r h a b : Nat) : Prop := ∀ P : Nat → Nat → Nat → Nat → Prop, (∀ r a, Okl r (c a) → P r 1 a (a + 1)) → (∀ r h a b, c a = -2 → P (r + 1) h (a + 1) b → P r (h + 1) a b) → (∀ r h1 h2 a m b, c a = -1 → P r h1 (a + 1) m → P r h2 m b → P r (1 + max h1 h2) a b) → P r h a b
theorem Tm.leaf {c : Nat → Int32} {r a : Nat} (h : Okl r (c a)) : Tm c r 1 a (a + 1) := fun _ p _ _ => p r a h
theorem Tm.abs {c : Nat → Int32} {r h a b : Nat} (e : c a = -2) (T : Tm c (r + 1) h (a + 1) b) : Tm c r (h + 1) a b := fun P p1 p2 p3 => p2 r h a b e (T P p1 p2 p3)
theorem Tm.app {c : Nat → Int32} {r h1 h2 a m b : Nat} (e : c a = -1) (T1 : Tm c r h1 (a + 1) m) (T2 : Tm c r h2 m b) : Tm c r (1 + max h1 h2) a b := fun P p1 p2 p3 => p3 r h1 h2 a m b e (T1 P p1 p2 p3) (T2 P p1 p2 p3)
theorem Tm.ind {c : Nat → Int32} {P : Nat → Nat → Nat → Nat → Prop} (p1 : ∀ r a, Okl r (c a) → P r 1 a (a + 1)) (p2 : ∀ r h a b, c a = -2 → Tm c (r + 1) h (a + 1) b → P (r + 1) h (a + 1) b → P r (h + 1) a b) (p3 : ∀ r h1 h2 a m b, c a = -1 → Tm c r h1 (a + 1) m → Tm c r h2 m b → P r h1 (a + 1) m → P r h2 m b → P r (1 + max h1 h2) a b) {r h a b : Nat} (T : Tm c r h a b) : P r h a b :=
  (T (fun r h a b => Tm c r h a b ∧ P r h a b) (fun r a h => ⟨Tm.leaf h, p1 r a h⟩) (fun r h a b e q => ⟨Tm.abs e q.1, p2 r h a b e q.1 q.2⟩) (fun r h1 h2 a m b e q1 q2 => ⟨Tm.app e q1.1 q2.1, p3 r h1 h2 a m b e q1.1 q2.1 q1.2 q2.2⟩)).2
theorem Okl.ne1 {r : Nat} {c : Int32} (h : Okl r c) : c ≠ -1 := by
  obtain ⟨v, hv, rfl, -⟩ := h
  exact nI_ne_m1 (by omega)
theorem nI_ne_m2 {n : Nat} (h : n < 2 ^ 31) : ¬ (nI n = -2) := by
  intro e
  have h1 := nI_toInt h
  rw [e, show (-2 : Int32).toInt = -2 from by decide] at h1
  omega
theorem Okl.ne2 {r : Nat} {c : Int32} (h : Okl r c) : c ≠ -2 := by
  obtain ⟨v, hv, rfl, -⟩ := h
  exact nI_ne_m2 (by omega)
theorem Okl.mono {r r' : Nat} {c : Int32} (h : Okl r c) (hr : r ≤ r') : Okl r' c := by
  obtain ⟨v, hv, e, h⟩ := h
  refine ⟨v, hv, e, ?_⟩
  rcases h with h | h | h
  · exact Or.inl ⟨h.1, by omega⟩
  · exact Or.inr (Or.inl h)
  · exact Or.inr (Or.inr h)
theorem Tm.inv {c : Nat → Int32} {r h a b : Nat} (T : Tm c r h a b) : (Okl r (c a) ∧ h = 1 ∧ b = a + 1) ∨ (c a = -2 ∧ ∃ h', h = h' + 1 ∧ Tm c (r + 1) h' (a + 1) b) ∨ (c a = -1 ∧ ∃ h1 h2 m, h = 1 + max h1 h2 ∧ Tm c r h1 (a + 1) m ∧ Tm c r h2 m b) :=
  Tm.ind (c := c) (P := fun r h a b => (Okl r (c a) ∧ h = 1 ∧ b = a + 1) ∨ (c a = -2 ∧ ∃ h', h = h' + 1 ∧ Tm c (r + 1) h' (a + 1) b) ∨ (c a = -1 ∧ ∃ h1 h2 m, h = 1 + max h1 h2 ∧ Tm c r h1 (a + 1) m ∧ Tm c r h2 m b)) (fun r a h => Or.inl ⟨h, rfl, rfl⟩) (fun r h a b e T _ => Or.inr (Or.inl ⟨e, h, rfl, T⟩)) (fun r h1 h2 a m b e T1 T2 _ _ => Or.inr (Or.inr ⟨e, h1, h2, m, rfl, T1, T2⟩)) T
theorem Tm.lt {c : Nat → Int32} {r h a b : Nat} (T : Tm c r h a b) : a < b ∧ 1 ≤ h ∧ h ≤ b - a :=
  Tm.ind (c := c) (P := fun r h a b => a < b ∧ 1 ≤ h ∧ h ≤ b - a) (fun r a h => by omega) (fun r h a b e T ih => by omega) (fun r h1 h2 a m b e T1 T2 i1 i2 => by omega) T
theorem Tm.det {c : Nat → Int32} {r h a b : Nat} (T : Tm c r h a b) : ∀ {r' h' b' : Nat}, Tm c r' h' a b' → b = b' ∧ h = h' := by
  refine Tm.ind (c := c) (P := fun r h a b => ∀ {r' h' b' : Nat}, Tm c r' h' a b' → b = b' ∧ h = h') ?_ ?_ ?_ T
  · intro r a o r' h' b' T'
    rcases T'.inv with ⟨-, e1, e2⟩ | ⟨e, -⟩ | ⟨e, -⟩
    · omega
    · exact absurd e o.ne2
    · exact absurd e o.ne1
  · intro r h a b e T ih r' h' b' T'
    rcases T'.inv with ⟨o, -⟩ | ⟨-, k, e2, T2⟩ | ⟨e2, -⟩
    · exact absurd e o.ne2
    · obtain ⟨q1, q2⟩ := ih T2; omega
    · rw [e] at e2; exact absurd e2 (by decide)
  · intro r h1 h2 a m b e T1 T2 i1 i2 r' h' b' T'
    rcases T'.inv with ⟨o, -⟩ | ⟨e2, -⟩ | ⟨-, k1, k2, m', e2, S1, S2⟩
    · exact absurd e o.ne1
    · rw [e] at e2; exact absurd e2 (by decide)
    · obtain ⟨q1, q2⟩ := i1 S1
      subst q1
      obtain ⟨q3, q4⟩ := i2 S2
      subst q2 q4; exact ⟨q3, e2.symm⟩
theorem Tm.shift {c : Nat → Int32} {r h a b : Nat} (T : Tm c r h a b) : ∀ {c' : Nat → Int32} {a' : Nat}, (∀ i, a + i < b → c' (a' + i) = c (a + i)) → Tm c' r h a' (a' + (b - a)) := by
  refine Tm.ind (c := c) (P := fun r h a b => ∀ {c' : Nat → Int32} {a' : Nat}, (∀ i, a + i < b → c' (a' + i) = c (a + i)) → Tm c' r h a' (a' + (b - a))) ?_ ?_ ?_ T
  · intro r a o c' a' hc
    have e := hc 0 (by omega)
    rw [Nat.add_zero, Nat.add_zero] at e
    have : a' + (a + 1 - a) = a' + 1 := by omega
    rw [this]
    exact Tm.leaf (by rw [e]; exact o)
  · intro r h a b e T ih c' a' hc
    have hl := T.lt
    have e0 := hc 0 (by omega)
    rw [Nat.add_zero, Nat.add_zero] at e0
    have := ih (c' := c') (a' := a' + 1) (fun i hi => by have := hc (1 + i) (by omega); rw [← Nat.add_assoc, ← Nat.add_assoc] at this; exact this)
    have q : a' + 1 + (b - (a + 1)) = a' + (b - a) := by omega
    rw [q] at this
    exact Tm.abs (e0.trans e) this
  · intro r h1 h2 a m b e T1 T2 i1 i2 c' a' hc
    have hl1 := T1.lt
    have hl2 := T2.lt
    have e0 := hc 0 (by omega)
    rw [Nat.add_zero, Nat.add_zero] at e0
    have s1 := i1 (c' := c') (a' := a' + 1) (fun i hi => by have := hc (1 + i) (by omega); rw [← Nat.add_assoc, ← Nat.add_assoc] at this; exact this)
    have s2 := i2 (c' := c') (a' := a' + 1 + (m - (a + 1))) (fun i hi => by
      have := hc (m - a + i) (by omega)
      have q1 : a' + (m - a + i) = a' + 1 + (m - (a + 1)) + i := by omega
      have q2 : a + (m - a + i) = m + i := by omega
      rw [q1, q2] at this; exact this)
    have q : a' + 1 + (m - (a + 1)) + (b - m) = a' + (b - a) := by omega
    rw [q] at s2
    exact Tm.app (e0.trans e) s1 s2
theorem Tm.congr {c c' : Nat → Int32} {r h a b : Nat} (T : Tm c r h a b) (hc : ∀ k, a ≤ k → k < b → c' k = c k) : Tm c' r h a b := by
  have hl := T.lt
  have := T.shift (c' := c') (a' := a) (fun i hi => hc (a + i) (by omega) hi)
  have q : a + (b - a) = b := by omega
  rwa [q] at this
theorem Tm.mono {c : Nat → Int32} {r h a b : Nat} (T : Tm c r h a b) : ∀ {r' : Nat}, r ≤ r' → Tm c r' h a b := by
  refine Tm.ind (c := c) (P := fun r h a b => ∀ {r' : Nat}, r ≤ r' → Tm c r' h a b) ?_ ?_ ?_ T
  · intro r a o r' hr
    exact Tm.leaf (o.mono hr)
  · intro r h a b e T ih r' hr
    exact Tm.abs e (ih (by omega))
  · intro r h1 h2 a m b e T1 T2 i1 i2 r' hr
    exact Tm.app e (i1 hr) (i2 hr)
/-- every code of a term -/
theorem Tm.codes {c : Nat → Int32} {r h a b : Nat} (T : Tm c r h a b) : ∀ k, a ≤ k → k < b → c k = -1 ∨ c k = -2 ∨ ∃ v, v < 4000 ∧ c k = nI v ∧ v % 4 ≠ 3 := by
  refine Tm.ind (c := c) (P := fun r h a b => ∀ k, a ≤ k → k < b → c k = -1 ∨ c k = -2 ∨ ∃ v, v < 4000 ∧ c k = nI v ∧ v % 4 ≠ 3) ?_ ?_ ?_ T
  · intro r a o k h1 h2
    have : k = a := by omega
    subst this
    obtain ⟨v, hv, e, o⟩ := o
    exact Or.inr (Or.inr ⟨v, hv, e, by omega⟩)
  · intro r h a b e T ih k h1 h2
    by_cases q : k = a
    · subst q; exact Or.inr (Or.inl e)
    · exact ih k (by omega) h2
  · intro r h1 h2 a m b e T1 T2 i1 i2 k g1 g2
    by_cases q : k = a
    · subst q; exact Or.inl e
    · by_cases q2 : k < m
      · exact i1 k (by omega) q2
      · exact i2 k (by omega) g2
/-! the invariant between class and reference, after w calls -/
def I2 (q : Nat) (x σ : St) : Prop := 3 ≤ q ∧ q ≤ 40 ∧ x 5 0 = nI q ∧ σ 1 0 = nI q ∧ x 3 2 = 2 ∧ ∀ c, c < q → σ 2 c = x 3 c ∧ (x 3 c = 0 ∨ x 3 c = 1 ∨ x 3 c = 2)
def I3 (p n : Nat) (x y σ : St) : Prop := p ≤ 200 ∧ x 6 0 = nI p ∧ σ 3 0 = nI p ∧ ∀ i, i < p → RT n y σ (x 4 i) (σ 4 i)
def I4 (w hc tot n : Nat) (y σ : St) : Prop := hc ≤ w ∧ tot ≤ 6000 ∧ y 12 0 = nI hc ∧ σ 13 0 = nI hc ∧ y 13 0 = nI tot ∧ σ 14 0 = nI tot ∧ ∀ i, i < hc → RT n y σ (y 9 i) (σ 15 i)
def I5 (w m : Nat) (s : Nat → Nat) (n : Nat) (y t σ : St) : Prop := m ≤ w ∧ t 5 0 = nI m ∧ σ 18 0 = nI m ∧ s 0 = 0 ∧ s m ≤ 30000 ∧ (∀ i, i ≤ m → t 2 i = nI (s i) ∧ σ 19 i = nI (s i)) ∧ (∀ i, i < m → s i < s (i + 1) ∧ s (i + 1) - s i ≤ 4000 ∧ ∃ h, h ≤ 120 ∧ t 3 i = nI h ∧ Tm (t 0) 0 h (s i) (s (i + 1))) ∧ ∀ k, k < s m → σ 20 k = t 0 k ∧ RT n y σ (t 1 k) (σ 21 k) ∧ (t 0 k = -2 → ∃ A B, tC y (t 1 k) = nd 2 A B)
def I6 (f S : Nat) (t b σ : St) : Prop := f ≤ 2000 ∧ b 6 0 = nI f ∧ (σ 26 0 = nI f ∨ (f = 0 ∧ σ 26 0 = -1)) ∧ (∀ i, i < f → ∃ u v h, b 2 i = nI u ∧ b 3 i = nI v ∧ σ 28 i = nI u ∧ σ 29 i = nI (v - u) ∧ v ≤ S ∧ v - u ≤ 4000 ∧ h ≤ 120 ∧ Tm (t 0) 0 h u v) ∧ (∀ i, i < f → ∃ c, c < 1000 ∧ b 0 i = nI (4 * c + 1)) ∧ ∀ c, c < 1000 → (∀ i, i < f → b 0 i ≠ nI (4 * c + 1)) → b 5 c = -1
def I7 (w : Nat) (y : St) : Prop := ∃ u, u ≤ w ∧ y 11 0 = nI u ∧ ∀ k, k < 8000 → ∃ v, v ≤ u ∧ y 8 k = nI v
def Inv (w : Nat) (x y t b σ : St) : Prop := ∃ n q p hc tot m s f, n ≤ 8000 ∧ I1 n (x 3) q y σ ∧ I2 q x σ ∧ I3 p n x y σ ∧ I4 w hc tot n y σ ∧ I5 w m s n y t σ ∧ I6 f (s m) t b σ ∧ I7 w y
/-- class's and reference's answers agree, and the invariant holds after the call -/
def Sim (M : Nat → Int32) (w : Nat) (C : Option ((Int32 ⊕ Nat) × (St × St × St × St × St))) (R : Option (Int32 × St)) : Prop := ∃ r x y t k b v σ, C = some (r, (x, y, t, k, b)) ∧ R = some (v, σ) ∧ Inv w x y t b σ ∧ ((∃ a, r = .inl a ∧ σ 0 0 = 0 ∧ v = a) ∨ ∃ e, r = .inr e ∧ σ 0 0 = M e ∧ M e ≠ 0)
theorem exI {α β S : Type} {a : α} {u : S} {K : α → Option ((β ⊕ Nat) × S)} {R : Option ((β ⊕ Nat) × S)} (h : K a = R) : ex (.inl a) u K = R := h
theorem exJ {α β S : Type} {a : Nat} {u : S} {K : α → Option ((β ⊕ Nat) × S)} {R : Option ((β ⊕ Nat) × S)} (h : some (.inr a, u) = R) : ex (.inr a) u K = R := h
theorem I5.smono {w m n : Nat} {s : Nat → Nat} {y t σ : St} (h : I5 w m s n y t σ) : ∀ i j, i ≤ j → j ≤ m → s i ≤ s j := by
  intro i j hij
  induction j with
  | zero => intro _; have : i = 0 := by omega
            subst this; exact Nat.le_refl _
  | succ j ih =>
    intro hj
    by_cases e : i = j + 1
    · subst e; exact Nat.le_refl _
    · have := ih (by omega) (by omega)
      have := (h.2.2.2.2.2.2.1 j (by omega)).1
      omega
