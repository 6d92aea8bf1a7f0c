/-! constructors: from a fresh object to the class's world, at addresses that come with it -/
abbrev wAf (q n : Nat) (cI : ClassId) (u : Nat → Int32) : va_W := [(q, .inl (cI, n, .inl u))]
def z0 : St := fun _ _ => 0
abbrev adL (L : List Nat) : Nat → Nat := fun i => L.getD i 0
section NW9
variable {S S0 : Type} {p : Program} {l : Launch} {e : Env} {R : Room} {s : State} {m : MethodId} {args : Array Value} {below : List Frame} {meth : Method} {c : Code} {H : Heap} {locs : List Loc} {cells slots : Nat} {D : va_G} {cI cZ : ClassId} {A : Nat → Prop} {w : S → va_W} {w0 : S0 → va_W}
def MN (l : Launch) (y : MethodName) (ws : List Cond) (rm : Room) (D : va_G) (cI cZ : ClassId) (q : Nat) (c0 : va_E) (w : S → va_W) (post : S → Prop) (mc ms : Nat) : Prop := ∀ sz : Nat, Met l y ws rm (pW D cI cZ (fun _ : Unit => [(q, c0)]) [.ref q] sz ()) (va_Qv post (bW D cI cZ w (va_A [(q, c0)] sz)) (va_A [(q, c0)] sz)) mc ms (va_A [(q, c0)] sz)
abbrev QN (below : List Frame) (args : Array Value) (s : State) (D : va_G) (cI cZ : ClassId) (w : S → va_W) (A : Nat → Prop) (post : S → Prop) (mc ms : Nat) : State → Prop := MQ below (va_Qv post (bW D cI cZ w A) A) args s mc ms A
theorem cA_int {cA : ClassId} (h : va_K D vwCl (kT cI cZ ++ [(cA, .int)]) s) : cI = cA := by
  have h1 := (h.2 0 (cI, .int) rfl).2
  have h2 := (h.2 2 (cA, .int) rfl).2
  exact Option.some.inj (h1.symm.trans h2)
theorem cA_bool {cA : ClassId} (h : va_K D vwCl (kT cI cZ ++ [(cA, .boolean)]) s) : cZ = cA := by
  have h1 := (h.2 1 (cZ, .boolean) rfl).2
  have h2 := (h.2 2 (cA, .boolean) rfl).2
  exact Option.some.inj (h1.symm.trans h2)
theorem MN.of {y : MethodName} {ws ws' : List Cond} {rm : Room} {q : Nat} {c0 : va_E} {post : S → Prop} {mc ms : Nat} {cc : ByteArray} {maxL : Nat} {own : String} (hy : plainName y.cls = true) (hown : y.cls = own) (hin : y.name = "<init>") (hw : ws = Cond.code y cc maxL none :: ws') (hen : (lg_sl [Value.ref q]).length ≤ maxL)
    (body : ∀ p e s m args below meth c A, mB p s m args meth c D cI cZ A cc maxL none ws own → meth.name = "<init>" → ∀ (H : Heap) (locs : List Loc) (ls : Array Slot), va_P D vwCl [(q, c0)] H → va_D A [(q, c0)] → va_S A s.heap H locs → lv_has ls maxL [(0, .ref q)] → W p l e rm s m args below meth c H locs 0 0 (QN below args s D cI cZ w A post mc ms) (F0 m 0 ls [])) : MN l y ws rm D cI cZ q c0 w post mc ms := by
  intro sz
  refine Met.ofW (cc := cc) (maxL := maxL) (ret := none) hy hw ?_
  intro p e s m args below meth c s₁ B hml hv
  obtain ⟨rfl, hsz, hP, hK, hD0, hN⟩ := hv
  subst hsz
  have hl := lv_entry [Value.ref q] hen
  rw [lg_entry_eq]
  generalize (lg_sl [Value.ref q] ++ List.replicate (maxL - (lg_sl [Value.ref q]).length) Slot.unset).toArray = ls at hl ⊢
  exact body p e s m _ below meth c _ ⟨B.exec, B.bytes, hml, B.returns, hown ▸ findClass_of_methodNamed B.named, atoms_spec (ws := ws) B.pre, B.notSynchronized, fun q h => Or.inr h, hK, hN⟩ ((name_of_methodNamed B.named B.method).1.trans hin) s.heap [] ls hP hD0.self va_S.rf hl
theorem ret_n {cc : ByteArray} {nL : Nat} {ws : List Cond} {own : String} {post : S → Prop} {pc mc ms : Nat} {ls : Array Slot} (u : S) (C0 : mB p s m args meth c D cI cZ A cc nL none ws own) (hu : post u) (hP : va_P D vwCl (w u) H) (hD : va_D A (w u)) (hS : va_S A s.heap H locs) (hdg : decode cc pc = .ok (.return_, 1)) (h1 : cells ≤ mc) (h2 : slots ≤ ms) : W p l e R s m args below meth c H locs cells slots (QN below args s D cI cZ w A post mc ms) (F0 m pc ls []) := by
  obtain ⟨hx, hb, hml, hr, hown, hts, hlocks, hA, hK, hN⟩ := C0
  exact W.widen h1 h2 (W.vret hx hb hr (fun t ht hW => ⟨⟨u, rfl, hu, by rw [ht]; exact hP, va_K.moved hW.alike hK, hD⟩, hS.F ht⟩) hS.2.2 hdg hlocks)
/-- the last cell is the new object; behind its constructor its world stands in its place -/
theorem mn_v {Q : State → Prop} {q : Nat} {c0 : va_E} {post : S0 → Prop} {ws wr : va_W} {pc mc0 ms0 : Nat} {ls : Array Slot} {st0 rest : List Value} {a : Array Value} (isC isR : List Nat)
    (hr : va_Run p l e R s m args below meth c H locs cells slots mc0 ms0 (F0 m pc ls st0) rest (va_Qv post (bW D cI cZ w0 (va_A [(q, c0)] H.size)) (va_A [(q, c0)] H.size) a) (va_A [(q, c0)] H.size))
    (hP : va_P D vwCl ws H) (hD : va_D A ws) (hS : va_S A s.heap H locs) (hA : ∀ q : Nat, s.heap.size ≤ q → A q) (hC : isC.map (fun i => ws[i]?) = [(q, c0)].map some) (hR : isR.map (fun i => ws[i]?) = wr.map some) (hn : va_nd isR = true) (hdis : ∀ i ∈ isR, i ∉ isC)
    (kk : ∀ u : S0, post u → ∀ (H1 : Heap) (locs1 : List Loc), va_P D vwCl (wr ++ w0 u) H1 → va_D A (wr ++ w0 u) → va_S A s.heap H1 locs1 → W p l e R s m args below meth c H1 locs1 (cells + mc0) (slots + ms0) Q (F0 m (pc + 3) ls rest)) : W p l e R s m args below meth c H locs cells slots Q (F0 m pc ls st0) := by
  have hFc := va_free (wc := [(q, c0)]) hD hS hA isC hC
  refine va_callv hr hS (fun q _ h => hFc q h) hFc (fun u t H1 locs ht hvm hw hB hz1 hk1 hS => ?_)
  obtain ⟨hP1, hK1, hD1⟩ := hB
  rw [ht] at hP1
  obtain ⟨hP, hD⟩ := va_join (wr := wr) hP hD isC isR hC hR hn hdis hk1 hFc hP1 hD1
  exact kk u hw H1 locs hP hD hS
end NW9
