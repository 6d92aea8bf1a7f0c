/-! PURE: numbers, rows, the mirrors' small functions -/
theorem nn {n : Nat} (h : n < 2 ^ 31) : ¬ (nI n < 0) := nI_pos h
theorem nI_ne_m1 {n : Nat} (h : n < 2 ^ 31) : ¬ (nI n = -1) := by
  intro e
  have h1 := nI_toInt h
  rw [e] at h1
  have h2 : (-1 : Int32).toInt = -1 := by decide
  rw [h2] at h1
  omega
theorem oob_no {n N : Nat} (h : n < N) (hN : N < 2 ^ 31) : ¬ (nI n < 0 ∨ N ≤ (nI n).toNatClampNeg) := nI_in h hN
theorem ofNat_nI (n : Nat) : Int32.ofNat n = nI n := rfl
theorem rd_in {N n i : Nat} {g : Nat → Int32} (h : i < n) (hn : n < 2 ^ 31) : f_X4_read N n g (nI i) = some (g i, ()) := by
  have h1 : ¬ (nI i < 0) := nn (by omega)
  have h2 : ¬ (Int32.ofNat n ≤ nI i) := by rw [ofNat_nI, nI_leI hn (by omega)]; omega
  have h3 := oob_no h hn
  rw [f_X4_read, if_neg h1, if_neg h2, if_neg h3, f_X4_read_17, nI_clamp (by omega)]
theorem rd_m1 {N n : Nat} {g : Nat → Int32} : f_X4_read N n g (-1) = some (-1, ()) := by
  rw [f_X4_read, if_pos (by decide), f_X4_read_16, f_X4_read_17]
theorem rd_out {N n i : Nat} {g : Nat → Int32} (h : n ≤ i) (hi : i < 2 ^ 31) : f_X4_read N n g (nI i) = some (-1, ()) := by
  have h1 : ¬ (nI i < 0) := nn hi
  have h2 : (Int32.ofNat n ≤ nI i) := by rw [ofNat_nI, nI_leI (by omega) hi]; exact h
  rw [f_X4_read, if_neg h1, if_pos h2, f_X4_read_16, f_X4_read_17]
theorem bnd_eq {α β : Type} (x : α) (f : α → Option β) : bnd x f = f x := rfl
theorem up2_at (σ : St) (k j : Nat) (v : Int32) (a i : Nat) : up2 σ k j v a i = if a = k ∧ i = j then v else σ a i := by
  unfold up2 upd
  by_cases h : a = k
  · subst h
    by_cases h2 : i = j
    · simp [h2]
    · simp [h2]
  · simp [h]
theorem nI_add1 (n : Nat) : nI n + 1 = nI (n + 1) := nI_1 n
theorem nI_dec {n : Nat} : nI (n + 1) + (-1) = nI n := pk_m1 n
/-! a table of nodes in chains by a hash: the newest of a chain first -/
/-- the greatest j < n whose hash is c, or -1 -/
def lst (hs : Nat → Nat) : Nat → Nat → Int32
  | 0, _ => -1
  | n + 1, c => if hs n = c then nI n else lst hs n c
theorem lst_congr {hs hs' : Nat → Nat} {n c : Nat} (h : ∀ k, k < n → hs k = hs' k) : lst hs n c = lst hs' n c := by
  induction n with
  | zero => rfl
  | succ n ih => rw [lst, lst, h n (Nat.lt_succ_self n), ih (fun k hk => h k (by omega))]
/-- the class's hash of a node -/
def hX (h a b : Int32) : Nat := Int32.toNatClampNeg ((((((h * 31) + a) * 8191) + b) ^^^ ((Int32.toUInt32 ((((h * 31) + a) * 8191) + b)) >>> ((Int32.toUInt32 12) &&& Int32.toUInt32 31)).toInt32) &&& 4095)
theorem hX_lt (h a b : Int32) : hX h a b < 4096 ∧ f_X2_bucketOf 0 h a b = some (nI (hX h a b), ()) := by
  unfold hX f_X2_bucketOf
  obtain ⟨j, hj, ej⟩ := pk_andE (((((h * 31) + a) * 8191) + b) ^^^ ((Int32.toUInt32 ((((h * 31) + a) * 8191) + b)) >>> ((Int32.toUInt32 12) &&& Int32.toUInt32 31)).toInt32) (m := 4095) 12 (by decide)
  rw [ej, nI_clamp (by omega)]
  exact ⟨by omega, rfl⟩
theorem bucket_eq {N : Nat} (h a b : Int32) : f_X2_bucketOf N h a b = some (nI (hX h a b), ()) := (hX_lt h a b).2
/-- the reference's -/
def hM (h a b : Int32) : Nat := Int32.toNatClampNeg ((((7919 * h) + (131 * a)) + b) &&& 4095)
theorem ltL {a k : Nat} (ha : a < 2 ^ 31) (hk : (OfNat.ofNat k : Nat) < 2 ^ 31) : (nI a < (no_index (OfNat.ofNat k) : Int32)) ↔ a < (OfNat.ofNat k : Nat) := nI_ltI ha hk
theorem Llt {a k : Nat} (ha : a < 2 ^ 31) (hk : (OfNat.ofNat k : Nat) < 2 ^ 31) : ((no_index (OfNat.ofNat k) : Int32) < nI a) ↔ (OfNat.ofNat k : Nat) < a := nI_ltI hk ha
theorem leL {a k : Nat} (ha : a < 2 ^ 31) (hk : (OfNat.ofNat k : Nat) < 2 ^ 31) : (nI a ≤ (no_index (OfNat.ofNat k) : Int32)) ↔ a ≤ (OfNat.ofNat k : Nat) := nI_leI ha hk
theorem Lle {a k : Nat} (ha : a < 2 ^ 31) (hk : (OfNat.ofNat k : Nat) < 2 ^ 31) : ((no_index (OfNat.ofNat k) : Int32) ≤ nI a) ↔ (OfNat.ofNat k : Nat) ≤ a := nI_leI hk ha
theorem eqL {a k : Nat} (ha : a < 2 ^ 31) (hk : (OfNat.ofNat k : Nat) < 2 ^ 31) : (nI a = (no_index (OfNat.ofNat k) : Int32)) ↔ a = (OfNat.ofNat k : Nat) := nI_eq ha hk
theorem addL {a k : Nat} : (nI a + (no_index (OfNat.ofNat k) : Int32)) = nI (a + OfNat.ofNat k) := nI_add a k
theorem subL {a k : Nat} (h : (OfNat.ofNat k : Nat) ≤ a) : (nI a - (no_index (OfNat.ofNat k) : Int32)) = nI (a - OfNat.ofNat k) := by
  change k ≤ a at h
  show _ = nI (a - k)
  obtain ⟨d, rfl⟩ : ∃ d, a = k + d := ⟨a - k, by omega⟩
  rw [← nI_add, Nat.add_sub_cancel_left]
  show nI k + nI d - nI k = nI d
  rw [Int32.add_comm, Int32.add_sub_cancel]
theorem subN {a k : Nat} (h : k ≤ a) : (nI a - nI k) = nI (a - k) := by
  obtain ⟨d, rfl⟩ : ∃ d, a = k + d := ⟨a - k, by omega⟩
  rw [← nI_add, Nat.add_sub_cancel_left, Int32.add_comm, Int32.add_sub_cancel]
theorem decN {a : Nat} (h : 1 ≤ a) : (nI a + -1) = nI (a - 1) := by
  obtain ⟨d, rfl⟩ : ∃ d, a = d + 1 := ⟨a - 1, by omega⟩
  rw [nI_dec, Nat.add_sub_cancel]
theorem eqM {a : Nat} (h : a < 2 ^ 31) : (nI a = -1) ↔ False := ⟨fun q => nI_ne_m1 h q, False.elim⟩
theorem i10 : ((1 : Int32) = 0) = False := by decide
theorem i01 : ((0 : Int32) = 1) = False := by decide
theorem im0 : ((-1 : Int32) = 0) = False := by decide
theorem im12 : ((-1 : Int32) = -2) = False := by decide
theorem im21 : ((-2 : Int32) = -1) = False := by decide
theorem m1lt : ((-1 : Int32) < 0) = True := by decide
theorem m2lt : ((-2 : Int32) < 0) = True := by decide
theorem m1le : ((0 : Int32) ≤ -1) = False := by decide
theorem m2le : ((0 : Int32) ≤ -2) = False := by decide
theorem i00 : ((0 : Int32) < 0) = False := by decide
theorem Mle {a : Nat} (h : a < 2 ^ 31) : (nI a ≤ -1) ↔ False := ⟨fun q => by
  have h1 := nI_toInt h
  have h2 : (nI a).toInt ≤ (-1 : Int32).toInt := Int32.le_iff_toInt_le.mp q
  rw [h1, show (-1 : Int32).toInt = -1 from by decide] at h2
  omega, False.elim⟩
theorem mulL {a k : Nat} : ((no_index (OfNat.ofNat k) : Int32) * nI a) = nI (OfNat.ofNat k * a) := pk_mul k a
theorem Ladd {a k : Nat} : ((no_index (OfNat.ofNat k) : Int32) + nI a) = nI (OfNat.ofNat k + a) := nI_add k a
theorem nI_lit0 : nI 0 = (0 : Int32) := rfl
theorem nltT {a b : Nat} (h : a < b) : (a < b) = True := eq_true h
theorem nltF {a b : Nat} (h : b ≤ a) : (a < b) = False := eq_false (by omega)
theorem nleT {a b : Nat} (h : a ≤ b) : (a ≤ b) = True := eq_true h
theorem nleF {a b : Nat} (h : b < a) : (a ≤ b) = False := eq_false (by omega)
theorem neqT {a b : Nat} (h : a = b) : (a = b) = True := eq_true h
theorem neqF {a b : Nat} (h : ¬ a = b) : (a = b) = False := eq_false h
theorem bs {α β : Type} {x : Option α} {v : α} {f : α → Option β} {r : Option β} (h : x = some v) (h2 : f v = r) : x.bind f = r := by rw [h]; exact h2
theorem bnE {α β : Type} {x : α} {f : α → Option β} {r : Option β} (h : f x = r) : bnd x f = r := h
theorem ip {c : Prop} [Decidable c] {α : Type} {a b r : α} (hc : c) (h : a = r) : (if c then a else b) = r := by rw [if_pos hc]; exact h
theorem iN {c : Prop} [Decidable c] {α : Type} {a b r : α} (hc : ¬ c) (h : b = r) : (if c then a else b) = r := by rw [if_neg hc]; exact h
theorem i0le0 : ((0 : Int32) ≤ 0) = True := by decide
theorem i1le0 : ((1 : Int32) ≤ 0) = False := by decide
theorem i2le0 : ((2 : Int32) ≤ 0) = False := by decide
theorem i3le0 : ((3 : Int32) ≤ 0) = False := by decide
