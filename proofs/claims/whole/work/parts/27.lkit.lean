/-! the law's own methods: a call of the system, its exceptions caught, its answer kept in a row of one long -/
abbrev kT3 (cI cZ cJ : ClassId) : List (ClassId × FieldType) := [(cI, .int), (cZ, .boolean), (cJ, .long)]
abbrev wO (ao : Nat) (cJ : ClassId) (o : Nat → Int64) : va_W := [(ao, .inl (cJ, 1, .inr (.inl o)))]
abbrev S5 : Type := St × St × St × St × St
abbrev SL : Type := S5 × (Nat → Int64)
abbrev wL4 (a4 a2 a1 a3 a0 : Nat → Nat) (ao : Nat) (cI cZ cJ : ClassId) (u : SL) : va_W := wX4 a4 a2 a1 a3 a0 cI cZ u.1 ++ wO ao cJ u.2
def ncs : List (String × String) := [("java/lang/IllegalArgumentException", "java/lang/IllegalStateException"), ("java/lang/IllegalArgumentException", "java/lang/IndexOutOfBoundsException"), ("java/lang/IllegalStateException", "java/lang/IllegalArgumentException"), ("java/lang/IllegalStateException", "java/lang/IndexOutOfBoundsException"), ("java/lang/IndexOutOfBoundsException", "java/lang/IllegalArgumentException"), ("java/lang/IndexOutOfBoundsException", "java/lang/IllegalStateException")]
def NC (U : State) : Prop := ∀ q ∈ ncs, va_Nc q.1 q.2 U
theorem NC.moved {u U : State} (hvm : u.vm.Alike U.vm) (h : NC u) : NC U := fun q hq => va_Nc.moved hvm (h q hq)
def exL {S : Type} (q : Int32 ⊕ Nat) (K : Int32 → Option (Int32 × S)) (E : Nat → Option (Int32 × S)) : Option (Int32 × S) := match q with
  | .inl a => K a
  | .inr k => E k
theorem exL_inl {S : Type} {a : Int32} {K : Int32 → Option (Int32 × S)} {E : Nat → Option (Int32 × S)} : exL (.inl a) K E = K a := rfl
theorem exL_inr {S : Type} {k : Nat} {K : Int32 → Option (Int32 × S)} {E : Nat → Option (Int32 × S)} : exL (.inr k) K E = E k := rfl
section LW
variable {S S0 : Type} {p : Program} {l : Launch} {e : Env} {R : Room} {s : State} {m : MethodId} {args : Array Value} {below : List Frame} {meth : Method} {c : Code} {H : Heap} {locs : List Loc} {cells slots : Nat} {D : va_G} {cI cZ cJ : ClassId} {A : Nat → Prop} {w : S → va_W} {w0 : S0 → va_W} {sa : Nat → Nat}
def bL (D : va_G) (cI cZ cJ : ClassId) (w : S → va_W) (A : Nat → Prop) (u : S) (t : State) : Prop := va_P D vwCl (w u) t.heap ∧ va_K D vwCl (kT3 cI cZ cJ) t ∧ va_D A (w u)
def pL (D : va_G) (cI cZ cJ : ClassId) (sa : Nat → Nat) (w : S → va_W) (av : List Value) (sz : Nat) (u : S) : Array Value → State → Prop := va_Pc av (fun U => U.heap.size = sz ∧ va_P D vwCl (w u) U.heap ∧ va_K D vwCl (kT3 cI cZ cJ) U ∧ va_D (fun _ => True) (w u) ∧ NW U ∧ XP sa (va_A (w u) sz) U U.heap ∧ NC U)
abbrev qL (D : va_G) (cI cZ cJ : ClassId) (w : S → va_W) (A : Nat → Prop) (r : Int32) (u1 : S) : Array Value → State → Outcome → State → Prop := va_Qi (fun r2 u2 => r2 = r ∧ u2 = u1) (bL D cI cZ cJ w A) A
def ML9 (l : Launch) (y : MethodName) (ws : List Cond) (rm : Room) (D : va_G) (cI cZ cJ : ClassId) (sa : Nat → Nat) (w : S → va_W) (av : List Value) (u0 : S) (mc ms : Nat) (f : Option (Int32 × S)) : Prop := ∀ (r : Int32) (u1 : S), f = some (r, u1) → ∀ sz : Nat, Met l y ws rm (pL D cI cZ cJ sa w av sz u0) (qL D cI cZ cJ w (va_A (w u0) sz) r u1) mc ms (va_A (w u0) sz)
def mL (l : Launch) (p : Program) (s : State) (m : MethodId) (args : Array Value) (meth : Method) (c : Code) (D : va_G) (cI cZ cJ : ClassId) (sa : Nat → Nat) (A : Nat → Prop) (cc : ByteArray) (nL : Nat) (ret : Option FieldType) (hh : List (Nat × Nat × Nat × Nat)) (ws : List Cond) (own : String) : Prop :=
  p.tables.exec = Jvm.exec ∧ c.code = cc ∧ c.maxLocals = nL ∧ meth.sig.returnType = ret ∧ s.vm.findClass own = some m.cls ∧ (∀ w ∈ ws, w.before args s = true) ∧ meth.locks = false ∧ (∀ q : Nat, s.heap.size ≤ q → A q) ∧ va_K D vwCl (kT3 cI cZ cJ) s ∧ NW s ∧ XP sa A s s.heap ∧ c.exceptionTable.toList = tableOf hh ∧ NC s
theorem pL_blind {av : List Value} {sz : Nat} {u : S} : FrameBlind (pL D cI cZ cJ sa w av sz u) := fun a U g mk q => by
  obtain ⟨q0, q1, qP, qK, qD, qN, qX, qC⟩ := q
  exact ⟨q0, q1, qP, va_K.moved (u := U) (U := U.calling g mk a) (Vm.Alike.refl U.vm) qK, qD, NW.same (u := U) rfl qN, qX.blind, NC.moved (u := U) (Vm.Alike.refl U.vm) qC⟩
theorem ML9.of {y : MethodName} {ws ws' : List Cond} {rm : Room} {av : List Value} {u0 : S} {mc ms : Nat} {f : Option (Int32 × S)} {cc : ByteArray} {maxL : Nat} {ret : Option FieldType} {hh : List (Nat × Nat × Nat × Nat)} {own : String} (hy : plainName y.cls = true) (hown : y.cls = own) (hw : ws = Cond.codeWith y cc maxL ret hh :: ws') (hen : (lg_sl av).length ≤ maxL)
    (body : ∀ (r : Int32) (u1 : S), f = some (r, u1) → ∀ p e s m args below meth c A, mL l p s m args meth c D cI cZ cJ sa A cc maxL ret hh ws own → ∀ (H : Heap) (locs : List Loc) (ls : Array Slot), va_P D vwCl (w u0) H → va_D A (w u0) → va_S A s.heap H locs → lv_has ls maxL (lv_args 0 av) → W p l e rm s m args below meth c H locs 0 0 (MQ below (qL D cI cZ cJ w A r u1) args s mc ms A) (F0 m 0 ls [])) : ML9 l y ws rm D cI cZ cJ sa w av u0 mc ms f := by
  intro r u1 hf sz
  refine va_MetW (cc := cc) (maxL := maxL) (ret := ret) (hh := hh) hy hw ?_
  intro p e s m args below meth c s₁ B hml hv
  obtain ⟨rfl, hsz, hP, hK, hD0, hN, hX, hC⟩ := hv
  subst hsz
  have hl := lv_entry av hen
  rw [lg_entry_eq]
  generalize (lg_sl av ++ List.replicate (maxL - (lg_sl av).length) Slot.unset).toArray = ls at hl ⊢
  have hts := atoms_spec (ws := ws) B.pre
  have hT : c.exceptionTable.toList = tableOf hh := vx_table (x := y) B (hts _ (by rw [hw]; exact List.mem_cons_self))
  exact body r u1 hf p e s m _ below meth c _ ⟨B.exec, B.bytes, hml, B.returns, hown ▸ findClass_of_methodNamed B.named, hts, B.notSynchronized, fun q h => Or.inr h, hK, hN, hX, hT, hC⟩ s.heap [] ls hP hD0.self va_S.rf hl
theorem lret_i {cc : ByteArray} {nL : Nat} {hh : List (Nat × Nat × Nat × Nat)} {ws : List Cond} {own : String} {r : Int32} {u1 : S} {pc mc ms : Nat} {ls : Array Slot} (C0 : mL l p s m args meth c D cI cZ cJ sa A cc nL (some .int) hh ws own) (hP : va_P D vwCl (w u1) H) (hD : va_D A (w u1)) (hS : va_S A s.heap H locs) (hdg : decode cc pc = .ok (.ireturn, 1)) (h1 : cells ≤ mc) (h2 : slots ≤ ms) : W p l e R s m args below meth c H locs cells slots (MQ below (qL D cI cZ cJ w A r u1) args s mc ms A) (F0 m pc ls [.int r]) := by
  obtain ⟨hx, hb, hml, hr, hown, hts, hlocks, hA, hK, hN, hX, hT, hC⟩ := C0
  exact W.widen h1 h2 (W.iret (v := r) hx hb hr (fun t ht hW => ⟨⟨r, u1, rfl, ⟨rfl, rfl⟩, by rw [ht]; exact hP, va_K.moved hW.alike hK, hD⟩, hS.F ht⟩) hS.2.2 hdg hlocks)
/-- a call that throws or answers, in a method that catches -/
theorem ml_i {Q : State → Prop} {u0 u2 : S0} {res0 : Int32 ⊕ Nat} {ws wr ws' : va_W} {pc mc0 ms0 : Nat} {ls : Array Slot} {st0 rest : List Value} {a : Array Value} (isC isR js : List Nat)
    (hr : vx_Run p l e R s m args below meth c H locs cells slots mc0 ms0 (F0 m pc ls st0) rest (xI D cI cZ w0 (va_A (w0 u0) H.size) res0 u2 a) (xX D cI cZ w0 (va_A (w0 u0) H.size) res0 u2) (va_A (w0 u0) H.size))
    (hP : va_P D vwCl ws H) (hD : va_D A ws) (hS : va_S A s.heap H locs) (hA : ∀ q : Nat, s.heap.size ≤ q → A q) (hC : isC.map (fun i => ws[i]?) = (w0 u0).map some) (hR : isR.map (fun i => ws[i]?) = wr.map some) (hn : va_nd isR = true) (hdis : ∀ i ∈ isR, i ∉ isC) (hnj : va_nd js = true) (hj : js.map (fun i => (wr ++ w0 u2)[i]?) = ws'.map some)
    (kx : ∀ k : Nat, res0 = .inr k → ∀ (ce : Cell) (q9 : Addr) (H1 : Heap) (locs1 : List Loc), va_P D vwCl ws' H1 → va_D A ws' → va_S A s.heap H1 locs1 → H1[q9]? = some ce → ce.vm = .none → s.vm.findClass (exN k) = some ce.cls → vx_W p l e R s m args below meth c H1 locs1 (cells + mc0) (slots + ms0) Q (F0 m pc ls rest) q9)
    (kk : ∀ (r : Int32), res0 = .inl r → ∀ (H1 : Heap) (locs1 : List Loc), va_P D vwCl ws' H1 → va_D A ws' → va_S A s.heap H1 locs1 → W p l e R s m args below meth c H1 locs1 (cells + mc0) (slots + ms0) Q (F0 m (pc + 3) ls (.int r :: rest))) : W p l e R s m args below meth c H locs cells slots Q (F0 m pc ls st0) := by
  have hFc := va_free (wc := w0 u0) hD hS hA isC hC
  refine vx_calli hr hS (fun q _ h => hFc q h) hFc (fun q _ h => hFc q h) (fun E ce q9 u t H1 locs1 ht hvm hw hB hz1 hk1 hS1 hce hcv hcl => ?_) (fun r2 u t H1 locs1 ht hvm hw hB hz1 hk1 hS1 => ?_)
  · subst hw
    obtain ⟨⟨k, hk, hE⟩, hP1, hK1, hD1⟩ := hB
    subst hE
    rw [ht] at hP1
    obtain ⟨hP2, hD2⟩ := va_join (wr := wr) hP hD isC isR hC hR hn hdis hk1 hFc hP1 hD1
    exact kx k hk ce q9 H1 locs1 (hP2.sub js (maps_fm hj)) (hD2.sub js hnj hj) hS1 hce hcv hcl
  · obtain ⟨hr2, rfl⟩ := hw
    obtain ⟨hP1, hK1, hD1⟩ := hB
    rw [ht] at hP1
    obtain ⟨hP2, hD2⟩ := va_join (wr := wr) hP hD isC isR hC hR hn hdis hk1 hFc hP1 hD1
    exact kk r2 hr2 H1 locs1 (hP2.sub js (maps_fm hj)) (hD2.sub js hnj hj) hS1
theorem XP.cast {A : Nat → Prop} {U : State} {H : Heap} {args : Array Value} (h : XP sa A U H) (k : Nat) : (Cond.castable (exN k) (exN k)).before args U = true := by
  obtain ⟨-, hN, -, -⟩ := h
  refine hN.use _ ?_
  unfold exN
  by_cases h0 : k = 0
  · rw [if_pos h0]; simp [NEs]
  · by_cases h1 : k = 1
    · rw [if_neg h0, if_pos h1]; simp [NEs]
    · rw [if_neg h0, if_neg h1]; simp [NEs]
end LW
