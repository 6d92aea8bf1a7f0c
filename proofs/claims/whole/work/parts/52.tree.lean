/-! PURE: types as trees, read off a table of nodes -/
abbrev Ty : Type := Term
def nd (h : Int32) (a b : Ty) : Ty := .add (.int h) (.add a b)
theorem nd_inj {h h' : Int32} {a a' b b' : Ty} (e : nd h a b = nd h' a' b') : h = h' ∧ a = a' ∧ b = b' := by
  unfold nd at e
  injection e with e1 e2
  injection e1 with e1
  injection e2 with e2 e3
  exact ⟨e1, e2, e3⟩
theorem nd_ne {h : Int32} {a b : Ty} : nd h a b ≠ Term.null := fun e => by cases e
def sz : Ty → Nat
  | .add (.int _) (.add a b) => 1 + sz a + sz b
  | _ => 0
def hg : Ty → Nat
  | .add (.int _) (.add a b) => 1 + max (hg a) (hg b)
  | _ => 0
theorem sz_nd (h : Int32) (a b : Ty) : sz (nd h a b) = 1 + sz a + sz b := by rw [nd, sz]
theorem hg_nd (h : Int32) (a b : Ty) : hg (nd h a b) = 1 + max (hg a) (hg b) := by rw [nd, hg]
theorem sz_null : sz Term.null = 0 := by rw [sz]; intro _ _ _ e; cases e
theorem hg_null : hg Term.null = 0 := by rw [hg]; intro _ _ _ e; cases e
/-- the tree of node i, to a depth -/
def tr (hd lf rt : Nat → Int32) : Nat → Int32 → Ty
  | 0, _ => .null
  | f + 1, i => if i = -1 then .null else nd (hd i.toNatClampNeg) (tr hd lf rt f (lf i.toNatClampNeg)) (tr hd lf rt f (rt i.toNatClampNeg))
/-- nothing, or a node below n -/
def Kid (n : Nat) (i : Int32) : Prop := i = -1 ∨ ∃ j, j < n ∧ i = nI j
theorem Kid.mono {n m : Nat} {i : Int32} (h : Kid n i) (hm : n ≤ m) : Kid m i := by
  rcases h with h | ⟨j, hj, e⟩
  · exact Or.inl h
  · exact Or.inr ⟨j, by omega, e⟩
def Low (n : Nat) (lf rt : Nat → Int32) : Prop := ∀ k, k < n → Kid k (lf k) ∧ Kid k (rt k)
def Uni (n : Nat) (hd lf rt : Nat → Int32) : Prop := ∀ i j, i < n → j < n → hd i = hd j → lf i = lf j → rt i = rt j → i = j
theorem tr_m1 {hd lf rt : Nat → Int32} (f : Nat) : tr hd lf rt f (-1) = Term.null := by
  cases f with
  | zero => rfl
  | succ f => rw [tr, if_pos rfl]
theorem tr_nd {hd lf rt : Nat → Int32} {k : Nat} (hk : k < 2 ^ 31) (f : Nat) : tr hd lf rt (f + 1) (nI k) = nd (hd k) (tr hd lf rt f (lf k)) (tr hd lf rt f (rt k)) := by
  rw [tr, if_neg (nI_ne_m1 hk), nI_clamp hk]
theorem tr_fuel {n : Nat} {hd lf rt : Nat → Int32} (hL : Low n lf rt) (hn : n < 2 ^ 31) : ∀ k, k < n → ∀ f g, k < f → k < g → tr hd lf rt f (nI k) = tr hd lf rt g (nI k) := by
  intro k
  induction k using Nat.strongRecOn with
  | _ k ih =>
    intro hk f g hf hg
    obtain ⟨f, rfl⟩ : ∃ q, f = q + 1 := ⟨f - 1, by omega⟩
    obtain ⟨g, rfl⟩ : ∃ q, g = q + 1 := ⟨g - 1, by omega⟩
    rw [tr_nd (by omega), tr_nd (by omega)]
    have key : ∀ i, Kid k i → tr hd lf rt f i = tr hd lf rt g i := by
      intro i hi
      rcases hi with rfl | ⟨j, hj, rfl⟩
      · rw [tr_m1, tr_m1]
      · exact ih j hj (by omega) f g (by omega) (by omega)
    rw [key _ (hL k hk).1, key _ (hL k hk).2]
/-- the tree of node i -/
def tT (hd lf rt : Nat → Int32) (i : Int32) : Ty := tr hd lf rt (i.toNatClampNeg + 1) i
theorem tT_m1 {hd lf rt : Nat → Int32} : tT hd lf rt (-1) = Term.null := tr_m1 _
theorem tT_nd {n : Nat} {hd lf rt : Nat → Int32} (hL : Low n lf rt) (hn : n < 2 ^ 31) {k : Nat} (hk : k < n) : tT hd lf rt (nI k) = nd (hd k) (tT hd lf rt (lf k)) (tT hd lf rt (rt k)) := by
  have hcl : (nI k).toNatClampNeg = k := nI_clamp (by omega)
  have key : ∀ i, Kid k i → tr hd lf rt k i = tT hd lf rt i := by
    intro i hi
    rcases hi with rfl | ⟨j, hj, rfl⟩
    · rw [tr_m1, tT_m1]
    · rw [tT, nI_clamp (by omega)]
      exact tr_fuel hL hn j (by omega) k (j + 1) hj (by omega)
  show tr hd lf rt ((nI k).toNatClampNeg + 1) (nI k) = _
  rw [hcl, tr_nd (by omega), key _ (hL k hk).1, key _ (hL k hk).2]
theorem tT_inj {n : Nat} {hd lf rt : Nat → Int32} (hL : Low n lf rt) (hU : Uni n hd lf rt) (hn : n < 2 ^ 31) : ∀ i j, Kid n i → Kid n j → tT hd lf rt i = tT hd lf rt j → i = j := by
  have key : ∀ m, ∀ i j, i < m → i < n → j < n → tT hd lf rt (nI i) = tT hd lf rt (nI j) → i = j := by
    intro m
    induction m with
    | zero => intro i j h; exact absurd h (Nat.not_lt_zero i)
    | succ m ih =>
      intro i j him hi hj e
      rw [tT_nd hL hn hi, tT_nd hL hn hj] at e
      obtain ⟨e1, e2, e3⟩ := nd_inj e
      have sub : ∀ a b, Kid i a → Kid j b → tT hd lf rt a = tT hd lf rt b → a = b := by
        intro a b ha hb e
        rcases ha with rfl | ⟨a, ha, rfl⟩
        · rcases hb with rfl | ⟨b, hb, rfl⟩
          · rfl
          · rw [tT_m1, tT_nd hL hn (by omega)] at e
            exact absurd e.symm nd_ne
        · rcases hb with rfl | ⟨b, hb, rfl⟩
          · rw [tT_m1, tT_nd hL hn (by omega)] at e
            exact absurd e nd_ne
          · rw [ih a b (by omega) (by omega) (by omega) e]
      exact hU i j hi hj e1 (sub _ _ (hL i hi).1 (hL j hj).1 e2) (sub _ _ (hL i hi).2 (hL j hj).2 e3)
  intro i j hi hj e
  rcases hi with rfl | ⟨a, ha, rfl⟩
  · rcases hj with rfl | ⟨b, hb, rfl⟩
    · rfl
    · rw [tT_m1, tT_nd hL hn hb] at e
      exact absurd e.symm nd_ne
  · rcases hj with rfl | ⟨b, hb, rfl⟩
    · rw [tT_m1, tT_nd hL hn ha] at e
      exact absurd e nd_ne
    · rw [key (a + 1) a b (Nat.lt_succ_self a) ha hb e]
theorem tT_congr {n : Nat} {hd lf rt hd' lf' rt' : Nat → Int32} (hL : Low n lf rt) (hn : n < 2 ^ 31) (h0 : ∀ k, k < n → hd' k = hd k) (h1 : ∀ k, k < n → lf' k = lf k) (h2 : ∀ k, k < n → rt' k = rt k) : ∀ i, Kid n i → tT hd' lf' rt' i = tT hd lf rt i := by
  have hL' : Low n lf' rt' := fun k hk => by rw [h1 k hk, h2 k hk]; exact hL k hk
  have key : ∀ k, k < n → tT hd' lf' rt' (nI k) = tT hd lf rt (nI k) := by
    intro k
    induction k using Nat.strongRecOn with
    | _ k ih =>
      intro hk
      rw [tT_nd hL hn hk, tT_nd hL' hn hk, h0 k hk, h1 k hk, h2 k hk]
      have sub : ∀ a, Kid k a → tT hd' lf' rt' a = tT hd lf rt a := by
        intro a ha
        rcases ha with rfl | ⟨j, hj, rfl⟩
        · rw [tT_m1, tT_m1]
        · exact ih j hj (by omega)
      rw [sub _ (hL k hk).1, sub _ (hL k hk).2]
  intro i hi
  rcases hi with rfl | ⟨k, hk, rfl⟩
  · rw [tT_m1, tT_m1]
  · exact key k hk
/-- node k is the tree, if its parts are -/
theorem tT_is {n : Nat} {hd lf rt : Nat → Int32} (hL : Low n lf rt) (hU : Uni n hd lf rt) (hn : n < 2 ^ 31) {k : Nat} (hk : k < n) {h a b : Int32} (ha : Kid n a) (hb : Kid n b) : tT hd lf rt (nI k) = nd h (tT hd lf rt a) (tT hd lf rt b) ↔ hd k = h ∧ lf k = a ∧ rt k = b := by
  rw [tT_nd hL hn hk]
  constructor
  · intro e
    obtain ⟨e1, e2, e3⟩ := nd_inj e
    exact ⟨e1, tT_inj hL hU hn _ _ ((hL k hk).1.mono (by omega)) ha e2, tT_inj hL hU hn _ _ ((hL k hk).2.mono (by omega)) hb e3⟩
  · intro ⟨e1, e2, e3⟩
    rw [e1, e2, e3]
