/-! PURE: the reference's table of nodes -/
theorem hM_lt (h a b : Int32) : hM h a b < 4096 ∧ f_X5_chainOf 0 h a b = some (nI (hM h a b), ()) := by
  unfold hM f_X5_chainOf
  obtain ⟨j, hj, ej⟩ := pk_andE (((7919 * h) + (131 * a)) + b) (m := 4095) 12 (by decide)
  rw [ej, nI_clamp (by omega)]
  exact ⟨by omega, rfl⟩
theorem chain_eq {N : Nat} (h a b : Int32) : f_X5_chainOf N h a b = some (nI (hM h a b), ()) := (hM_lt h a b).2
abbrev hZ (σ : St) : Nat → Nat := fun k => hM (σ 6 k) (σ 7 k) (σ 8 k)
def ChM (n : Nat) (σ : St) : Prop := (∀ c, c < 4096 → σ 12 c = lst (hZ σ) n c) ∧ ∀ k, k < n → σ 11 k = lst (hZ σ) k (hZ σ k)
abbrev tM (σ : St) : Int32 → Ty := tT (σ 6) (σ 7) (σ 8)
def TM (n : Nat) (σ : St) : Prop := n ≤ 16000 ∧ σ 5 0 = nI n ∧ ChM n σ ∧ Low n (σ 7) (σ 8) ∧ Uni n (σ 6) (σ 7) (σ 8) ∧ ∀ k, k < n → σ 9 k = nI (min (sz (tM σ (nI k))) 1000) ∧ σ 10 k = nI (hg (tM σ (nI k))) ∧ hg (tM σ (nI k)) ≤ 16000
theorem node_17 {N n : Nat} {σ : St} (hn : n ≤ 16000) (h11 : ∀ k, k < n → σ 11 k = lst (hZ σ) k (hZ σ k)) (h a b : Int32) : ∀ m, m ≤ n → ∀ fuel, m < fuel → (∃ k, k < m ∧ σ 6 k = h ∧ σ 7 k = a ∧ σ 8 k = b ∧ f_X5_node_17 N fuel σ h a b (nI (hM h a b)) (lst (hZ σ) m (hM h a b)) = some (nI k, σ)) ∨ ((∀ k, k < m → ¬ (σ 6 k = h ∧ σ 7 k = a ∧ σ 8 k = b)) ∧ f_X5_node_17 N fuel σ h a b (nI (hM h a b)) (lst (hZ σ) m (hM h a b)) = f_X5_node_17 N 1 σ h a b (nI (hM h a b)) (-1)) := by
  intro m
  induction m with
  | zero =>
    intro _ fuel hf
    obtain ⟨f, rfl⟩ : ∃ f, fuel = f + 1 := ⟨fuel - 1, by omega⟩
    refine Or.inr ⟨fun k hk => absurd hk (Nat.not_lt_zero k), ?_⟩
    show f_X5_node_17 N (f + 1) σ h a b (nI (hM h a b)) (-1) = _
    rw [f_X5_node_17, f_X5_node_17, if_pos rfl, if_pos rfl]
  | succ m ih =>
    intro hm fuel hf
    obtain ⟨f, rfl⟩ : ∃ f, fuel = f + 1 := ⟨fuel - 1, by omega⟩
    by_cases hc : hZ σ m = hM h a b
    · have e : lst (hZ σ) (m + 1) (hM h a b) = nI m := by rw [lst, if_pos hc]
      have oo : ¬ (nI m < 0 ∨ 16000 ≤ (nI m).toNatClampNeg) := oob_no (by omega) (by omega)
      have cl : (nI m).toNatClampNeg = m := nI_clamp (by omega)
      have hnext : f_X5_node_59 N (f_X5_node_17 N f) σ h a b (nI (hM h a b)) (nI m) = f_X5_node_17 N f σ h a b (nI (hM h a b)) (lst (hZ σ) m (hM h a b)) := by
        rw [f_X5_node_59, if_neg oo, cl, h11 m (by omega), hc]
      have hih := ih (by omega) f (by omega)
      rw [e, f_X5_node_17, if_neg (nI_ne_m1 (by omega)), if_neg oo, cl]
      have hno : ¬ (σ 6 m = h ∧ σ 7 m = a ∧ σ 8 m = b) → (∃ k, k < m + 1 ∧ σ 6 k = h ∧ σ 7 k = a ∧ σ 8 k = b ∧ f_X5_node_59 N (f_X5_node_17 N f) σ h a b (nI (hM h a b)) (nI m) = some (nI k, σ)) ∨ ((∀ k, k < m + 1 → ¬ (σ 6 k = h ∧ σ 7 k = a ∧ σ 8 k = b)) ∧ f_X5_node_59 N (f_X5_node_17 N f) σ h a b (nI (hM h a b)) (nI m) = f_X5_node_17 N 1 σ h a b (nI (hM h a b)) (-1)) := by
        intro hne
        rw [hnext]
        rcases hih with ⟨k, hk, h1⟩ | ⟨h1, h2⟩
        · exact Or.inl ⟨k, by omega, h1⟩
        · refine Or.inr ⟨fun k hk => ?_, h2⟩
          by_cases hkm : k = m
          · subst hkm; exact hne
          · exact h1 k (by omega)
      have oo' : ¬ (nI m < 0 ∨ 16000 ≤ m) := by rw [cl] at oo; exact oo
      by_cases e0 : σ 6 m = h
      · rw [if_pos e0, if_neg oo']
        by_cases e1 : σ 7 m = a
        · rw [if_pos e1, if_neg oo']
          by_cases e2 : σ 8 m = b
          · rw [if_pos e2]
            exact Or.inl ⟨m, by omega, e0, e1, e2, rfl⟩
          · rw [if_neg e2]
            exact hno (fun q => e2 q.2.2)
        · rw [if_neg e1]
          exact hno (fun q => e1 q.2.1)
      · rw [if_neg e0]
        exact hno (fun q => e0 q.1)
    · have e : lst (hZ σ) (m + 1) (hM h a b) = lst (hZ σ) m (hM h a b) := by rw [lst, if_neg hc]
      rw [e]
      rcases ih (by omega) (f + 1) (by omega) with ⟨k, hk, h1⟩ | ⟨h1, h2⟩
      · exact Or.inl ⟨k, by omega, h1⟩
      · refine Or.inr ⟨fun k hk => ?_, h2⟩
        by_cases hkm : k = m
        · subst hkm
          intro q
          exact hc (by show hM (σ 6 k) (σ 7 k) (σ 8 k) = _; rw [q.1, q.2.1, q.2.2])
        · exact h1 k (by omega)
/-- the reference's table with one node more -/
def mkM (σ : St) (n c : Nat) (h a b w0 w t : Int32) : St := up2 (up2 (up2 (up2 (up2 (up2 (up2 (up2 (up2 σ 11 n (σ 12 c)) 12 c (nI n)) 6 n h) 7 n a) 8 n b) 9 n w0) 9 n w) 10 n t) 5 0 (nI n + 1)
theorem mkM_row {σ : St} {n c : Nat} {h a b w0 w t : Int32} (r i : Nat) : mkM σ n c h a b w0 w t r i = if r = 11 ∧ i = n then σ 12 c else if r = 12 ∧ i = c then nI n else if r = 6 ∧ i = n then h else if r = 7 ∧ i = n then a else if r = 8 ∧ i = n then b else if r = 9 ∧ i = n then w else if r = 10 ∧ i = n then t else if r = 5 ∧ i = 0 then nI n + 1 else σ r i := by
  unfold mkM
  simp only [up2_at]
  by_cases h11 : r = 11
  · subst h11; simp
  by_cases h12 : r = 12
  · subst h12; simp
  by_cases h6 : r = 6
  · subst h6; simp
  by_cases h7 : r = 7
  · subst h7; simp
  by_cases h8 : r = 8
  · subst h8; simp
  by_cases h9 : r = 9
  · subst h9; simp; by_cases e : i = n <;> simp [e]
  by_cases h10 : r = 10
  · subst h10; simp
  by_cases h5 : r = 5
  · subst h5; simp
  simp [h11, h12, h6, h7, h8, h9, h10, h5]
/-- what the reference adds for a part: its width, its height -/
theorem part_w {n : Nat} {σ z : St} (T : TM n σ) {i : Int32} (hi : Kid n i) (hz : ∀ k, k < n → z 9 k = σ 9 k) : (i = -1 ∧ min (sz (tM σ i)) 1000 = 0) ∨ (¬ i = -1 ∧ ¬ (i < 0 ∨ 16000 ≤ i.toNatClampNeg) ∧ z 9 i.toNatClampNeg = nI (min (sz (tM σ i)) 1000)) := by
  obtain ⟨hn, h5, hC, hL, hU, hS⟩ := T
  rcases hi with rfl | ⟨k, hk, rfl⟩
  · refine Or.inl ⟨rfl, ?_⟩
    show min (sz (tT _ _ _ (-1))) 1000 = 0
    rw [tT_m1, sz_null]; rfl
  · refine Or.inr ⟨nI_ne_m1 (by omega), oob_no (by omega) (by omega), ?_⟩
    rw [nI_clamp (by omega), hz k hk]
    exact (hS k hk).1
theorem part_h {n : Nat} {σ z : St} (T : TM n σ) {i : Int32} (hi : Kid n i) (hz : ∀ k, k < n → z 10 k = σ 10 k) : (i = -1 ∧ hg (tM σ i) = 0) ∨ (¬ i = -1 ∧ ¬ (i < 0 ∨ 16000 ≤ i.toNatClampNeg) ∧ z 10 i.toNatClampNeg = nI (hg (tM σ i)) ∧ hg (tM σ i) ≤ 16000) := by
  obtain ⟨hn, h5, hC, hL, hU, hS⟩ := T
  rcases hi with rfl | ⟨k, hk, rfl⟩
  · refine Or.inl ⟨rfl, ?_⟩
    show hg (tT _ _ _ (-1)) = 0
    rw [tT_m1, hg_null]
  · refine Or.inr ⟨nI_ne_m1 (by omega), oob_no (by omega) (by omega), ?_, (hS k hk).2.2⟩
    rw [nI_clamp (by omega), hz k hk]
    exact (hS k hk).2.1
theorem node_app {N n : Nat} {σ : St} (T : TM n σ) (hn : n < 16000) {a b : Int32} (ha : Kid n a) (hb : Kid n b) (h : Int32) : ∃ w0, f_X5_node_17 N 1 σ h a b (nI (hM h a b)) (-1) = some (nI n, mkM σ n (hM h a b) h a b w0 (nI (min (sz (nd h (tM σ a) (tM σ b))) 1000)) (nI (hg (nd h (tM σ a) (tM σ b))))) := by
  obtain ⟨hn', h5, hC, hL, hU, hS⟩ := id T
  have hk := (hM_lt h a b).1
  have oc : ¬ (nI (hM h a b) < 0 ∨ 4096 ≤ (nI (hM h a b)).toNatClampNeg) := oob_no hk (by omega)
  have oo : ¬ (nI n < 0 ∨ 16000 ≤ (nI n).toNatClampNeg) := oob_no hn (by omega)
  have cc : (nI (hM h a b)).toNatClampNeg = hM h a b := nI_clamp (by omega)
  have cl : (nI n).toNatClampNeg = n := nI_clamp (by omega)
  have st : ∀ (z : St), z 5 0 = nI n → ∀ (k j : Nat) (v : Int32), k ≠ 5 → up2 z k j v 5 0 = nI n := fun z hz k j v hk => by
    rw [up2_at, if_neg (fun q => hk q.1.symm)]; exact hz
  have keep : ∀ (z : St) (r k j : Nat) (v : Int32), (∀ i, i < n → z r i = σ r i) → (r ≠ k ∨ n ≤ j) → ∀ i, i < n → up2 z k j v r i = σ r i := fun z r k j v hz hr i hi => by
    rw [up2_at, if_neg (fun q => by rcases hr with hr | hr; exact hr q.1; omega)]; exact hz i hi
  rw [f_X5_node_17, if_pos rfl, if_neg oc, h5, if_neg oo, cl]
  rw [bnd_eq, if_neg oc, st σ h5 11 n _ (by decide), cc, bnd_eq]
  have q2 := st _ (st σ h5 11 n (σ 12 (hM h a b)) (by decide)) 12 (hM h a b) (nI n) (by decide)
  rw [q2, if_neg oo, cl, bnd_eq]
  have q3 := st _ q2 6 n h (by decide)
  rw [q3, if_neg oo, cl, bnd_eq]
  have q4 := st _ q3 7 n a (by decide)
  rw [q4, if_neg oo, cl, bnd_eq]
  have q5 := st _ q4 8 n b (by decide)
  rw [q5]
  obtain ⟨s6, e6⟩ : ∃ z, z = up2 (up2 (up2 (up2 (up2 σ 11 n (σ 12 (hM h a b))) 12 (hM h a b) (nI n)) 6 n h) 7 n a) 8 n b := ⟨_, rfl⟩
  rw [← e6] at q5 ⊢
  have k9 : ∀ i, i < n → s6 9 i = σ 9 i := fun i hi => by rw [e6]; simp [up2_at]
  have k10 : ∀ i, i < n → s6 10 i = σ 10 i := fun i hi => by rw [e6]; simp [up2_at]
  obtain ⟨wa, ewa⟩ : ∃ z, z = min (sz (tM σ a)) 1000 := ⟨_, rfl⟩
  obtain ⟨wb, ewb⟩ : ∃ z, z = min (sz (tM σ b)) 1000 := ⟨_, rfl⟩
  have hw : min (sz (nd h (tM σ a) (tM σ b))) 1000 = min (1 + wa + wb) 1000 := by rw [sz_nd, ewa, ewb]; omega
  -- the width's two parts
  have s1 : (if a = -1 then f_X5_node_152 N s6 a b (nI n) 1 0 else if a < 0 ∨ 16000 ≤ a.toNatClampNeg then none else f_X5_node_152 N s6 a b (nI n) 1 (s6 9 a.toNatClampNeg)) = f_X5_node_152 N s6 a b (nI n) 1 (nI wa) := by
    rcases part_w T ha k9 with ⟨e, w⟩ | ⟨e, o, w⟩
    · rw [if_pos e, ewa, w]; rfl
    · rw [if_neg e, if_neg o, w, ewa]
  rw [s1, f_X5_node_152]
  have s2 : (if b = -1 then f_X5_node_168 N s6 a b (nI n) (1 + nI wa) 0 else if b < 0 ∨ 16000 ≤ b.toNatClampNeg then none else f_X5_node_168 N s6 a b (nI n) (1 + nI wa) (s6 9 b.toNatClampNeg)) = f_X5_node_168 N s6 a b (nI n) (1 + nI wa) (nI wb) := by
    rcases part_w T hb k9 with ⟨e, w⟩ | ⟨e, o, w⟩
    · rw [if_pos e, ewb, w]; rfl
    · rw [if_neg e, if_neg o, w, ewb]
  have e1 : 1 + nI wa + nI wb = nI (1 + wa + wb) := by rw [← nI_add, ← nI_add]; rfl
  rw [s2, f_X5_node_168, if_neg oo, cl, e1, bnd_eq]
  have q7 := st s6 q5 9 n (nI (1 + wa + wb)) (by decide)
  have r7 : up2 s6 9 n (nI (1 + wa + wb)) 9 n = nI (1 + wa + wb) := by rw [up2_at, if_pos ⟨rfl, rfl⟩]
  rw [q7, if_neg oo, cl, r7]
  have c7 : (nI (1 + wa + wb) ≤ 1000) ↔ 1 + wa + wb ≤ 1000 := nI_leI (b := 1000) (by omega) (by omega)
  have s3 : (if nI (1 + wa + wb) ≤ 1000 then (if nI n < 0 ∨ 16000 ≤ n then none else f_X5_node_208 N (up2 s6 9 n (nI (1 + wa + wb))) a b (nI n) (nI (1 + wa + wb))) else f_X5_node_208 N (up2 s6 9 n (nI (1 + wa + wb))) a b (nI n) 1000) = f_X5_node_208 N (up2 s6 9 n (nI (1 + wa + wb))) a b (nI n) (nI (min (1 + wa + wb) 1000)) := by
    by_cases g : 1 + wa + wb ≤ 1000
    · rw [if_pos (c7.mpr g), if_neg (by rw [cl] at oo; exact oo), Nat.min_eq_left g]
    · rw [if_neg (fun q => g (c7.mp q)), Nat.min_eq_right (by omega)]; rfl
  refine ⟨nI (1 + wa + wb), ?_⟩
  refine Eq.trans s3 ?_
  rw [f_X5_node_208, if_neg oo, cl, bnd_eq]
  obtain ⟨s8, e8⟩ : ∃ z, z = up2 (up2 s6 9 n (nI (1 + wa + wb))) 9 n (nI (min (1 + wa + wb) 1000)) := ⟨_, rfl⟩
  rw [← e8]
  have q8 : s8 5 0 = nI n := by rw [e8]; exact st _ q7 9 n _ (by decide)
  have m10 : ∀ i, i < n → s8 10 i = σ 10 i := fun i hi => by rw [e8, up2_at, if_neg (by omega), up2_at, if_neg (by omega)]; exact k10 i hi
  have s4 : (if a = -1 then f_X5_node_224 N s8 b 0 else if a < 0 ∨ 16000 ≤ a.toNatClampNeg then none else f_X5_node_224 N s8 b (s8 10 a.toNatClampNeg)) = f_X5_node_224 N s8 b (nI (hg (tM σ a))) := by
    rcases part_h T ha m10 with ⟨e, w⟩ | ⟨e, o, w, -⟩
    · rw [if_pos e, w]; rfl
    · rw [if_neg e, if_neg o, w]
  have s5 : (if b = -1 then f_X5_node_241 N s8 (nI (hg (tM σ a))) 0 else if b < 0 ∨ 16000 ≤ b.toNatClampNeg then none else f_X5_node_241 N s8 (nI (hg (tM σ a))) (s8 10 b.toNatClampNeg)) = f_X5_node_241 N s8 (nI (hg (tM σ a))) (nI (hg (tM σ b))) := by
    rcases part_h T hb m10 with ⟨e, w⟩ | ⟨e, o, w, -⟩
    · rw [if_pos e, w]; rfl
    · rw [if_neg e, if_neg o, w]
  rw [s4, f_X5_node_224, s5, f_X5_node_241, q8]
  have ba : hg (tM σ a) ≤ 16000 := by rcases part_h T ha (z := σ) (fun _ _ => rfl) with ⟨-, w⟩ | ⟨-, -, -, w⟩ <;> omega
  have bb : hg (tM σ b) ≤ 16000 := by rcases part_h T hb (z := σ) (fun _ _ => rfl) with ⟨-, w⟩ | ⟨-, -, -, w⟩ <;> omega
  have s6' : (if nI (hg (tM σ a)) ≤ nI (hg (tM σ b)) then f_X5_node_266 N s8 (nI n) 1 (nI (hg (tM σ b))) else f_X5_node_266 N s8 (nI n) 1 (nI (hg (tM σ a)))) = f_X5_node_266 N s8 (nI n) 1 (nI (max (hg (tM σ a)) (hg (tM σ b)))) := by
    by_cases g : hg (tM σ a) ≤ hg (tM σ b)
    · rw [if_pos ((nI_leI (by omega) (by omega)).mpr g), Nat.max_eq_right g]
    · rw [if_neg (fun q => g ((nI_leI (by omega) (by omega)).mp q)), Nat.max_eq_left (by omega)]
  have e9 : 1 + nI (max (hg (tM σ a)) (hg (tM σ b))) = nI (1 + max (hg (tM σ a)) (hg (tM σ b))) := by rw [← nI_add]; rfl
  rw [s6', f_X5_node_266, if_neg oo, cl, e9, bnd_eq, st s8 q8 10 n _ (by decide), bnd_eq]
  have e10 : up2 (up2 s8 10 n (nI (1 + max (hg (tM σ a)) (hg (tM σ b))))) 5 0 (nI n + 1) 5 0 = nI n + 1 := by rw [up2_at, if_pos ⟨rfl, rfl⟩]
  rw [e10, nI_add1, nI_pred, ← nI_add1, hw, hg_nd, e8, e6]
  rfl
theorem mkM_ok {n : Nat} {σ : St} (T : TM n σ) (g4 : n < 16000) {a b : Int32} (ha : Kid n a) (hb : Kid n b) {h w0 : Int32} (hnf : ∀ k, k < n → ¬ (σ 6 k = h ∧ σ 7 k = a ∧ σ 8 k = b)) (g2 : hg (nd h (tM σ a) (tM σ b)) ≤ 16000) {z : St} (hz : z = mkM σ n (hM h a b) h a b w0 (nI (min (sz (nd h (tM σ a) (tM σ b))) 1000)) (nI (hg (nd h (tM σ a) (tM σ b))))) :
    TM (n + 1) z ∧ tM z (nI n) = nd h (tM σ a) (tM σ b) ∧ (∀ i, Kid n i → tM z i = tM σ i) ∧ (∀ r, r ≠ 5 → r ≠ 6 → r ≠ 7 → r ≠ 8 → r ≠ 9 → r ≠ 10 → r ≠ 11 → r ≠ 12 → z r = σ r) := by
  obtain ⟨hn, h5, hC, hL, hU, hS⟩ := id T
  subst hz
  generalize hz : mkM σ n (hM h a b) h a b w0 (nI (min (sz (nd h (tM σ a) (tM σ b))) 1000)) (nI (hg (nd h (tM σ a) (tM σ b)))) = z
  have row := fun r i => (congrFun (congrFun hz.symm r) i).trans (mkM_row (σ := σ) (n := n) (h := h) (a := a) (b := b) (w0 := w0) r i)
  have z6 : ∀ k, k < n → z 6 k = σ 6 k := fun k hk => by rw [row]; simp [show k ≠ n by omega]
  have z7 : ∀ k, k < n → z 7 k = σ 7 k := fun k hk => by rw [row]; simp [show k ≠ n by omega]
  have z8 : ∀ k, k < n → z 8 k = σ 8 k := fun k hk => by rw [row]; simp [show k ≠ n by omega]
  have z9 : ∀ k, k < n → z 9 k = σ 9 k := fun k hk => by rw [row]; simp [show k ≠ n by omega]
  have zt : ∀ k, k < n → z 10 k = σ 10 k := fun k hk => by rw [row]; simp [show k ≠ n by omega]
  have ze : ∀ k, k < n → z 11 k = σ 11 k := fun k hk => by rw [row]; simp [show k ≠ n by omega]
  have n6 : z 6 n = h := by rw [row]; simp
  have n7 : z 7 n = a := by rw [row]; simp
  have n8 : z 8 n = b := by rw [row]; simp
  have n9 : z 9 n = nI (min (sz (nd h (tM σ a) (tM σ b))) 1000) := by rw [row]; simp
  have nt : z 10 n = nI (hg (nd h (tM σ a) (tM σ b))) := by rw [row]; simp
  have ne : z 11 n = σ 12 (hM h a b) := by rw [row]; simp
  have zc : ∀ c, z 12 c = if c = hM h a b then nI n else σ 12 c := fun c => by rw [row]; simp
  have z5 : z 5 0 = nI (n + 1) := by rw [row, ← nI_add1]; simp
  have hL' : Low (n + 1) (z 7) (z 8) := by
    intro k hk
    by_cases e : k = n
    · subst e; rw [n7, n8]; exact ⟨ha, hb⟩
    · rw [z7 k (by omega), z8 k (by omega)]; exact hL k (by omega)
  have hold : ∀ i, Kid n i → tM z i = tM σ i := tT_congr hL (by omega) z6 z7 z8
  have hnew : tM z (nI n) = nd h (tM σ a) (tM σ b) := by
    show tT (z 6) (z 7) (z 8) (nI n) = _
    rw [tT_nd hL' (by omega) (Nat.lt_succ_self n), n6, n7, n8]
    rw [show tT (z 6) (z 7) (z 8) a = tM σ a from hold a ha, show tT (z 6) (z 7) (z 8) b = tM σ b from hold b hb]
  have hH : ∀ k, k < n → hZ z k = hZ σ k := fun k hk => by show hM _ _ _ = hM _ _ _; rw [z6 k hk, z7 k hk, z8 k hk]
  have hHn : hZ z n = hM h a b := by show hM _ _ _ = _; rw [n6, n7, n8]
  refine ⟨⟨by omega, z5, ⟨fun c hc => ?_, fun k hk => ?_⟩, hL', ?_, ?_⟩, hnew, hold, fun r a1 a2 a3 a4 a5 a6 a7 a8 => ?_⟩
  · rw [zc, lst, hHn]
    by_cases e : c = hM h a b
    · rw [if_pos e, if_pos e.symm]
    · rw [if_neg e, if_neg (fun q => e q.symm), hC.1 c hc]
      exact (lst_congr (fun k hk => hH k hk)).symm
  · by_cases e : k = n
    · subst e
      rw [ne, hHn, hC.1 _ (hM_lt h a b).1]
      exact (lst_congr (fun j hj => hH j hj)).symm
    · rw [ze k (by omega), hC.2 k (by omega), hH k (by omega)]
      exact (lst_congr (fun j hj => hH j (by omega))).symm
  · intro i j hi hj e0 e1 e2
    by_cases ei : i = n
    · by_cases ej : j = n
      · omega
      · subst ei
        rw [n6, z6 j (by omega)] at e0
        rw [n7, z7 j (by omega)] at e1
        rw [n8, z8 j (by omega)] at e2
        exact absurd ⟨e0.symm, e1.symm, e2.symm⟩ (hnf j (by omega))
    · by_cases ej : j = n
      · subst ej
        rw [n6, z6 i (by omega)] at e0
        rw [n7, z7 i (by omega)] at e1
        rw [n8, z8 i (by omega)] at e2
        exact absurd ⟨e0, e1, e2⟩ (hnf i (by omega))
      · rw [z6 i (by omega), z6 j (by omega)] at e0
        rw [z7 i (by omega), z7 j (by omega)] at e1
        rw [z8 i (by omega), z8 j (by omega)] at e2
        exact hU i j (by omega) (by omega) e0 e1 e2
  · intro k hk
    by_cases e : k = n
    · subst e
      rw [hnew, n9, nt]
      exact ⟨rfl, rfl, g2⟩
    · rw [hold (nI k) (Or.inr ⟨k, by omega, rfl⟩), z9 k (by omega), zt k (by omega)]
      exact hS k (by omega)
  · funext i
    rw [row]
    simp [a1, a2, a3, a4, a5, a6, a7, a8]
