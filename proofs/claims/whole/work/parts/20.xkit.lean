/-! methods that throw: an answer is Sum.inl r, an exception Sum.inr k, k its class -/
def exN (k : Nat) : String := if k = 0 then "java/lang/IllegalArgumentException" else if k = 1 then "java/lang/IllegalStateException" else "java/lang/IndexOutOfBoundsException"
def ex {α β S : Type} (q : α ⊕ Nat) (u : S) (K : α → Option ((β ⊕ Nat) × S)) : Option ((β ⊕ Nat) × S) := match q with
  | .inl a => K a
  | .inr k => some (.inr k, u)
theorem ex_inl {α β S : Type} {a : α} {u : S} {K : α → Option ((β ⊕ Nat) × S)} : ex (.inl a) u K = K a := rfl
def strs : List (Nat × String) := [(46, "a constructor takes 0 to 2 types"), (53, "there are 40 constructors"), (79, "no such constructor"), (93, "no such symbol of the type"), (99, "there are 200 constants"), (107, "no such constant"), (116, "the constant's own type does not become that one"), (130, "not of functions from that type"), (162, "no application"), (164, "an application has the parts 0 and 1"), (169, "no abstraction"), (171, "not of the bound variable's type"), (176, "not of the variable's type"), (195, "no such symbol of the term"), (200, "what is 0 or 1"), (219, "the latest match made no such variable something"), (245, "too many symbols, too high, or too many together"), (250, "no such type"), (256, "no such term"), (258, "no free variable"), (260, "a variable's number is 0 to 999")]
def NEs : List Cond := [.castable "java/lang/IllegalArgumentException" "java/lang/IllegalArgumentException", .castable "java/lang/IllegalStateException" "java/lang/IllegalStateException", .castable "java/lang/IndexOutOfBoundsException" "java/lang/IndexOutOfBoundsException", .declares (Bundle.initS "java/lang/RuntimeException"), .declares (Bundle.initS "java/lang/Exception"), .declares (Bundle.initS "java/lang/Throwable")]
def NE (U : State) : Prop := ∀ w ∈ NEs, va_Nw w U
theorem NEs_on : ∀ w ∈ NEs, w.onTables = true := by
  intro w hw
  simp only [NEs, List.mem_cons, List.not_mem_nil, or_false] at hw
  rcases hw with rfl | rfl | rfl | rfl | rfl | rfl <;> rfl
theorem NE.same {u U : State} (h : u.vm = U.vm) (hN : NE u) : NE U := fun w hw => va_Nw.same (NEs_on w hw) h (hN w hw)
theorem NE.warm {s U : State} (hW : s.WarmedH U.vm) (hN : NE s) : NE U := by
  intro w hw
  have h := hN w hw
  simp only [NEs, List.mem_cons, List.not_mem_nil, or_false] at hw
  rcases hw with rfl | rfl | rfl | rfl | rfl | rfl <;> first | exact va_Nw.warmC hW h | exact va_Nw.warmD hW h
theorem NE.use {s : State} {args : Array Value} (hN : NE s) : ∀ w ∈ NEs, w.before args s = true := fun w hw => va_Nw.use (NEs_on w hw) (hN w hw)
/-- what a throw needs of the state -/
def XP (sa : Nat → Nat) (A : Nat → Prop) (U : State) (H : Heap) : Prop := (∀ q ∈ strs, vk_R RX4 q.1 q.2 (sa q.1) U) ∧ NE U ∧ vx_Zq Bundle.tN "UNASSIGNED_STACK" Bundle.steD A U H ∧ vx_Zq Bundle.tN "SUPPRESSED_SENTINEL" Bundle.listD A U H
theorem XP.call {sa : Nat → Nat} {A B : Nat → Prop} {s U : State} {H : Heap} {locs : List Loc} (h : XP sa A s s.heap) (hS : va_S A s.heap H locs) (hAB : ∀ q, B q → A q) (hU : U.heap = H) (hW : s.WarmedH U.vm) : XP sa B U U.heap := by
  obtain ⟨h1, h2, h3, h4⟩ := h
  subst hU
  exact ⟨fun q hq => vk_R.warm hW (h1 q hq), NE.warm hW h2, ((h3.kept hS.2.1).narrow hAB).moved hW.alike, ((h4.kept hS.2.1).narrow hAB).moved hW.alike⟩
theorem XP.blind {sa : Nat → Nat} {A : Nat → Prop} {U : State} {g : JFrame} {mk : MethodId} {a : Array Value} (h : XP sa A U U.heap) : XP sa A (U.calling g mk a) (U.calling g mk a).heap := by
  obtain ⟨h1, h2, h3, h4⟩ := h
  exact ⟨fun q hq => vk_R.same (u := U) rfl (h1 q hq), NE.same (u := U) rfl h2, vx_Zq.moved (u := U) (U := U.calling g mk a) (Vm.Alike.refl U.vm) h3, vx_Zq.moved (u := U) (U := U.calling g mk a) (Vm.Alike.refl U.vm) h4⟩
section XW
variable {S S0 : Type} {p : Program} {l : Launch} {e : Env} {R : Room} {s : State} {m : MethodId} {args : Array Value} {below : List Frame} {meth : Method} {c : Code} {H : Heap} {locs : List Loc} {cells slots : Nat} {D : va_G} {cI cZ : ClassId} {A : Nat → Prop} {w : S → va_W} {w0 : S0 → va_W} {sa : Nat → Nat}
def pX (D : va_G) (cI cZ : ClassId) (sa : Nat → Nat) (w : S → va_W) (av : List Value) (sz : Nat) (u : S) : Array Value → State → Prop := va_Pc av (fun U => U.heap.size = sz ∧ va_P D vwCl (w u) U.heap ∧ va_K D vwCl (kT cI cZ) U ∧ va_D (fun _ => True) (w u) ∧ NW U ∧ XP sa (va_A (w u) sz) U U.heap)
abbrev xX (D : va_G) (cI cZ : ClassId) (w : S → va_W) (A : Nat → Prop) {α : Type} (res : α ⊕ Nat) (u1 : S) : String → State → State → Prop := vx_X (fun u2 => u2 = u1) (fun E u t => (∃ k, res = Sum.inr k ∧ E = exN k) ∧ bW D cI cZ w A u t) A
abbrev xI (D : va_G) (cI cZ : ClassId) (w : S → va_W) (A : Nat → Prop) (res : Int32 ⊕ Nat) (u1 : S) : Array Value → State → Outcome → State → Prop := va_Qi (fun r2 u2 => res = Sum.inl r2 ∧ u2 = u1) (bW D cI cZ w A) A
abbrev xV (D : va_G) (cI cZ : ClassId) (w : S → va_W) (A : Nat → Prop) (res : Unit ⊕ Nat) (u1 : S) : Array Value → State → Outcome → State → Prop := va_Qv (fun u2 => res = Sum.inl () ∧ u2 = u1) (bW D cI cZ w A) A
def XI (l : Launch) (y : MethodName) (ws : List Cond) (rm : Room) (D : va_G) (cI cZ : ClassId) (sa : Nat → Nat) (w : S → va_W) (av : List Value) (u0 : S) (mc ms : Nat) (f : Option ((Int32 ⊕ Nat) × S)) : Prop := ∀ (res : Int32 ⊕ Nat) (u1 : S), f = some (res, u1) → ∀ sz : Nat, vx_Met l y ws rm (pX D cI cZ sa w av sz u0) (xI D cI cZ w (va_A (w u0) sz) res u1) (xX D cI cZ w (va_A (w u0) sz) res u1) mc ms (va_A (w u0) sz)
def XV (l : Launch) (y : MethodName) (ws : List Cond) (rm : Room) (D : va_G) (cI cZ : ClassId) (sa : Nat → Nat) (w : S → va_W) (av : List Value) (u0 : S) (mc ms : Nat) (f : Option ((Unit ⊕ Nat) × S)) : Prop := ∀ (res : Unit ⊕ Nat) (u1 : S), f = some (res, u1) → ∀ sz : Nat, vx_Met l y ws rm (pX D cI cZ sa w av sz u0) (xV D cI cZ w (va_A (w u0) sz) res u1) (xX D cI cZ w (va_A (w u0) sz) res u1) mc ms (va_A (w u0) sz)
def mX (l : Launch) (p : Program) (s : State) (m : MethodId) (args : Array Value) (meth : Method) (c : Code) (D : va_G) (cI cZ : ClassId) (sa : Nat → Nat) (A : Nat → Prop) (cc : ByteArray) (nL : Nat) (ret : Option FieldType) (ws : List Cond) (own : String) : Prop :=
  mB p s m args meth c D cI cZ A cc nL ret ws own ∧ XP sa A s s.heap ∧ l.stackTraces = false ∧ ∀ x ∈ c.exceptionTable.toList, False
theorem pX_blind {av : List Value} {sz : Nat} {u : S} : FrameBlind (pX D cI cZ sa w av sz u) := fun a U g mk q => by
  obtain ⟨q0, q1, qP, qK, qD, qN, qX⟩ := q
  exact ⟨q0, q1, qP, va_K.moved (u := U) (U := U.calling g mk a) (Vm.Alike.refl U.vm) qK, qD, NW.same (u := U) rfl qN, qX.blind⟩
theorem XI.of {y : MethodName} {ws ws' : List Cond} {rm : Room} {av : List Value} {u0 : S} {mc ms : Nat} {f : Option ((Int32 ⊕ Nat) × S)} {cc : ByteArray} {maxL : Nat} {ret : Option FieldType} {own : String} (hlt : l.stackTraces = false) (hy : plainName y.cls = true) (hown : y.cls = own) (hw : ws = Cond.code y cc maxL ret :: ws') (hen : (lg_sl av).length ≤ maxL)
    (body : ∀ (res : Int32 ⊕ Nat) (u1 : S), f = some (res, u1) → ∀ p e s m args below meth c A, mX l p s m args meth c D cI cZ sa A cc maxL ret ws own → ∀ (H : Heap) (locs : List Loc) (ls : Array Slot), va_P D vwCl (w u0) H → va_D A (w u0) → va_S A s.heap H locs → lv_has ls maxL (lv_args 0 av) → W p l e rm s m args below meth c H locs 0 0 (vx_MQ below (xI D cI cZ w A res u1) (xX D cI cZ w A res u1) args s mc ms A) (F0 m 0 ls [])) : XI l y ws rm D cI cZ sa w av u0 mc ms f := by
  intro res u1 hf sz
  refine vx_ofW (cc := cc) (maxL := maxL) (ret := ret) hy hw ?_
  intro p e s m args below meth c s₁ B hml hT hv
  obtain ⟨rfl, hsz, hP, hK, hD0, hN, hX⟩ := hv
  subst hsz
  have hl := lv_entry av hen
  rw [lg_entry_eq]
  generalize (lg_sl av ++ List.replicate (maxL - (lg_sl av).length) Slot.unset).toArray = ls at hl ⊢
  exact body res u1 hf p e s m _ below meth c _ ⟨⟨B.exec, B.bytes, hml, B.returns, hown ▸ findClass_of_methodNamed B.named, atoms_spec (ws := ws) B.pre, B.notSynchronized, fun q h => Or.inr h, hK, hN⟩, hX, hlt, hT⟩ s.heap [] ls hP hD0.self va_S.rf hl
theorem XV.of {y : MethodName} {ws ws' : List Cond} {rm : Room} {av : List Value} {u0 : S} {mc ms : Nat} {f : Option ((Unit ⊕ Nat) × S)} {cc : ByteArray} {maxL : Nat} {ret : Option FieldType} {own : String} (hlt : l.stackTraces = false) (hy : plainName y.cls = true) (hown : y.cls = own) (hw : ws = Cond.code y cc maxL ret :: ws') (hen : (lg_sl av).length ≤ maxL)
    (body : ∀ (res : Unit ⊕ Nat) (u1 : S), f = some (res, u1) → ∀ p e s m args below meth c A, mX l p s m args meth c D cI cZ sa A cc maxL ret ws own → ∀ (H : Heap) (locs : List Loc) (ls : Array Slot), va_P D vwCl (w u0) H → va_D A (w u0) → va_S A s.heap H locs → lv_has ls maxL (lv_args 0 av) → W p l e rm s m args below meth c H locs 0 0 (vx_MQ below (xV D cI cZ w A res u1) (xX D cI cZ w A res u1) args s mc ms A) (F0 m 0 ls [])) : XV l y ws rm D cI cZ sa w av u0 mc ms f := by
  intro res u1 hf sz
  refine vx_ofW (cc := cc) (maxL := maxL) (ret := ret) hy hw ?_
  intro p e s m args below meth c s₁ B hml hT hv
  obtain ⟨rfl, hsz, hP, hK, hD0, hN, hX⟩ := hv
  subst hsz
  have hl := lv_entry av hen
  rw [lg_entry_eq]
  generalize (lg_sl av ++ List.replicate (maxL - (lg_sl av).length) Slot.unset).toArray = ls at hl ⊢
  exact body res u1 hf p e s m _ below meth c _ ⟨⟨B.exec, B.bytes, hml, B.returns, hown ▸ findClass_of_methodNamed B.named, atoms_spec (ws := ws) B.pre, B.notSynchronized, fun q h => Or.inr h, hK, hN⟩, hX, hlt, hT⟩ s.heap [] ls hP hD0.self va_S.rf hl
theorem xret_i {cc : ByteArray} {nL : Nat} {ws : List Cond} {own : String} {r : Int32} {u1 : S} {pc : Nat} {ls : Array Slot} {mc ms : Nat} (C0 : mX l p s m args meth c D cI cZ sa A cc nL (some .int) ws own) (hP : va_P D vwCl (w u1) H) (hD : va_D A (w u1)) (hS : va_S A s.heap H locs) (hdg : decode cc pc = .ok (.ireturn, 1)) (h1 : cells ≤ mc) (h2 : slots ≤ ms) : W p l e R s m args below meth c H locs cells slots (vx_MQ below (xI D cI cZ w A (Sum.inl r) u1) (xX D cI cZ w A (Sum.inl r : Int32 ⊕ Nat) u1) args s mc ms A) (F0 m pc ls [.int r]) := by
  obtain ⟨⟨hx, hb, hml, hr, hown, hts, hlocks, hA, hK, hN⟩, hX, hlt, hT⟩ := C0
  exact W.widen h1 h2 (vx_ret (W.iret (v := r) hx hb hr (fun t ht hW => ⟨⟨r, u1, rfl, ⟨rfl, rfl⟩, by rw [ht]; exact hP, va_K.moved hW.alike hK, hD⟩, hS.F ht⟩) hS.2.2 hdg hlocks))
theorem xret_z {cc : ByteArray} {nL : Nat} {ws : List Cond} {own : String} {r : Int32} {u1 : S} {pc : Nat} {ls : Array Slot} {mc ms : Nat} (C0 : mX l p s m args meth c D cI cZ sa A cc nL (some .boolean) ws own) (h01 : r = 0 ∨ r = 1) (hP : va_P D vwCl (w u1) H) (hD : va_D A (w u1)) (hS : va_S A s.heap H locs) (hdg : decode cc pc = .ok (.ireturn, 1)) (h1 : cells ≤ mc) (h2 : slots ≤ ms) : W p l e R s m args below meth c H locs cells slots (vx_MQ below (xI D cI cZ w A (Sum.inl r) u1) (xX D cI cZ w A (Sum.inl r : Int32 ⊕ Nat) u1) args s mc ms A) (F0 m pc ls [.int r]) := by
  obtain ⟨⟨hx, hb, hml, hr, hown, hts, hlocks, hA, hK, hN⟩, hX, hlt, hT⟩ := C0
  exact W.widen h1 h2 (vx_ret (W.zret (v := r) hx hb hr (by rcases h01 with rfl | rfl <;> rfl) (fun t ht hW => ⟨⟨r, u1, rfl, ⟨rfl, rfl⟩, by rw [ht]; exact hP, va_K.moved hW.alike hK, hD⟩, hS.F ht⟩) hS.2.2 hdg hlocks))
theorem xret_v {cc : ByteArray} {nL : Nat} {ws : List Cond} {own : String} {u1 : S} {pc : Nat} {ls : Array Slot} {mc ms : Nat} (C0 : mX l p s m args meth c D cI cZ sa A cc nL none ws own) (hP : va_P D vwCl (w u1) H) (hD : va_D A (w u1)) (hS : va_S A s.heap H locs) (hdg : decode cc pc = .ok (.return_, 1)) (h1 : cells ≤ mc) (h2 : slots ≤ ms) : W p l e R s m args below meth c H locs cells slots (vx_MQ below (xV D cI cZ w A (Sum.inl ()) u1) (xX D cI cZ w A (Sum.inl () : Unit ⊕ Nat) u1) args s mc ms A) (F0 m pc ls []) := by
  obtain ⟨⟨hx, hb, hml, hr, hown, hts, hlocks, hA, hK, hN⟩, hX, hlt, hT⟩ := C0
  exact W.widen h1 h2 (vx_ret (W.vret hx hb hr (fun t ht hW => ⟨⟨u1, rfl, ⟨rfl, rfl⟩, by rw [ht]; exact hP, va_K.moved hW.alike hK, hD⟩, hS.F ht⟩) hS.2.2 hdg hlocks))
theorem pXV {u0 : S0} {ws : va_W} {C : String} {T : u_T} {n ci : Nat} {b : Nat} {fs : List Value} {As : List Value} (isC : List Nat) (hP : va_P D vwCl ws H) (hD : va_D A ws) (hS : va_S A s.heap H locs) (hA : ∀ q : Nat, s.heap.size ≤ q → A q) (hK : va_K D vwCl (kT cI cZ) s) (hN : NW s) (hX : XP sa A s s.heap) (hC : isC.map (fun i => ws[i]?) = (w0 u0).map some) (hn : va_nd isC = true) (hc : vwCl[ci]? = some (C, T, n)) (he : (w0 u0)[0]? = some (b, .inr (ci, fs))) : PreV s H C b (pX D cI cZ sa w0 (.ref b :: As) H.size u0) As := by
  have hPc := hP.sub isC (maps_fm hC)
  have hDc := hD.sub isC hn hC
  have hFc := va_free (wc := w0 u0) hD hS hA isC hC
  exact ⟨pX_blind, va_recv hK hPc hc he, fun U hU hW => ⟨rfl, by rw [hU], by rw [hU]; exact hPc, va_K.moved hW.alike hK, hDc.weaken (fun _ _ _ _ => trivial), NW.warm hW hN, hX.call hS hFc hU hW⟩⟩
theorem pXS {u0 : S0} {ws : va_W} {As : List Value} (isC : List Nat) (hP : va_P D vwCl ws H) (hD : va_D A ws) (hS : va_S A s.heap H locs) (hA : ∀ q : Nat, s.heap.size ≤ q → A q) (hK : va_K D vwCl (kT cI cZ) s) (hN : NW s) (hX : XP sa A s s.heap) (hC : isC.map (fun i => ws[i]?) = (w0 u0).map some) (hn : va_nd isC = true) : PreS s H (pX D cI cZ sa w0 As H.size u0) As := by
  have hPc := hP.sub isC (maps_fm hC)
  have hDc := hD.sub isC hn hC
  have hFc := va_free (wc := w0 u0) hD hS hA isC hC
  exact ⟨pX_blind, fun U hU hW => ⟨rfl, by rw [hU], by rw [hU]; exact hPc, va_K.moved hW.alike hK, hDc.weaken (fun _ _ _ _ => trivial), NW.warm hW hN, hX.call hS hFc hU hW⟩⟩
/-- a call that doesn't throw, at any count of cells -/
theorem mg_i {Q : State → Prop} {u0 u1 : S0} {r : Int32} {ws wr ws' : va_W} {pc : Nat} {ls : Array Slot} {st0 rest : List Value} {a : Array Value} (isC isR js : List Nat)
    (hr : va_Run p l e R s m args below meth c H locs cells slots 0 0 (F0 m pc ls st0) rest (va_Qi (fun r2 u2 => r2 = r ∧ u2 = u1) (bW D cI cZ w0 (va_A (w0 u0) H.size)) (va_A (w0 u0) H.size) a) (va_A (w0 u0) H.size))
    (hP : va_P D vwCl ws H) (hD : va_D A ws) (hS : va_S A s.heap H locs) (hA : ∀ q : Nat, s.heap.size ≤ q → A q) (hC : isC.map (fun i => ws[i]?) = (w0 u0).map some) (hR : isR.map (fun i => ws[i]?) = wr.map some) (hn : va_nd isR = true) (hdis : ∀ i ∈ isR, i ∉ isC) (hnj : va_nd js = true) (hj : js.map (fun i => (wr ++ w0 u1)[i]?) = ws'.map some)
    (kk : ∀ (H1 : Heap) (locs1 : List Loc), va_P D vwCl ws' H1 → va_D A ws' → va_S A s.heap H1 locs1 → W p l e R s m args below meth c H1 locs1 cells slots Q (F0 m (pc + 3) ls (.int r :: rest))) : W p l e R s m args below meth c H locs cells slots Q (F0 m pc ls st0) := by
  have hFc := va_free (wc := w0 u0) hD hS hA isC hC
  refine va_calli hr hS (fun q _ h => hFc q h) hFc (fun r2 u t H1 locs ht hvm hw hB hz1 hk1 hS => ?_)
  obtain ⟨rfl, rfl⟩ := hw
  obtain ⟨hP1, hK1, hD1⟩ := hB
  rw [ht] at hP1
  obtain ⟨hP, hD⟩ := va_join (wr := wr) hP hD isC isR hC hR hn hdis hk1 hFc hP1 hD1
  exact kk H1 locs (hP.sub js (maps_fm hj)) (hD.sub js hnj hj) hS
theorem mg_v {Q : State → Prop} {u0 u1 : S0} {ws wr ws' : va_W} {pc : Nat} {ls : Array Slot} {st0 rest : List Value} {a : Array Value} (isC isR js : List Nat)
    (hr : va_Run p l e R s m args below meth c H locs cells slots 0 0 (F0 m pc ls st0) rest (va_Qv (fun u2 => u2 = u1) (bW D cI cZ w0 (va_A (w0 u0) H.size)) (va_A (w0 u0) H.size) a) (va_A (w0 u0) H.size))
    (hP : va_P D vwCl ws H) (hD : va_D A ws) (hS : va_S A s.heap H locs) (hA : ∀ q : Nat, s.heap.size ≤ q → A q) (hC : isC.map (fun i => ws[i]?) = (w0 u0).map some) (hR : isR.map (fun i => ws[i]?) = wr.map some) (hn : va_nd isR = true) (hdis : ∀ i ∈ isR, i ∉ isC) (hnj : va_nd js = true) (hj : js.map (fun i => (wr ++ w0 u1)[i]?) = ws'.map some)
    (kk : ∀ (H1 : Heap) (locs1 : List Loc), va_P D vwCl ws' H1 → va_D A ws' → va_S A s.heap H1 locs1 → W p l e R s m args below meth c H1 locs1 cells slots Q (F0 m (pc + 3) ls rest)) : W p l e R s m args below meth c H locs cells slots Q (F0 m pc ls st0) := by
  have hFc := va_free (wc := w0 u0) hD hS hA isC hC
  refine va_callv hr hS (fun q _ h => hFc q h) hFc (fun u t H1 locs ht hvm hw hB hz1 hk1 hS => ?_)
  subst hw
  obtain ⟨hP1, hK1, hD1⟩ := hB
  rw [ht] at hP1
  obtain ⟨hP, hD⟩ := va_join (wr := wr) hP hD isC isR hC hR hn hdis hk1 hFc hP1 hD1
  exact kk H1 locs (hP.sub js (maps_fm hj)) (hD.sub js hnj hj) hS
/-- a call that throws or answers; what it throws leaves this method too -/
theorem mx_i {α : Type} {Qc : Array Value → State → Outcome → State → Prop} {res : α ⊕ Nat} {uo u1 : S} {u0 u2 : S0} {res0 : Int32 ⊕ Nat} {ws wr : va_W} {pc mc ms mc0 ms0 : Nat} {ls : Array Slot} {st0 rest : List Value} {a : Array Value} (isC isR js : List Nat)
    (hr : vx_Run p l e R s m args below meth c H locs cells slots mc0 ms0 (F0 m pc ls st0) rest (xI D cI cZ w0 (va_A (w0 u0) H.size) res0 u2 a) (xX D cI cZ w0 (va_A (w0 u0) H.size) res0 u2) (va_A (w0 u0) H.size))
    (hT : ∀ x ∈ c.exceptionTable.toList, False) (hlocks : meth.locks = false) (hK : va_K D vwCl (kT cI cZ) s)
    (hP : va_P D vwCl ws H) (hD : va_D A ws) (hS : va_S A s.heap H locs) (hA : ∀ q : Nat, s.heap.size ≤ q → A q) (hC : isC.map (fun i => ws[i]?) = (w0 u0).map some) (hR : isR.map (fun i => ws[i]?) = wr.map some) (hn : va_nd isR = true) (hdis : ∀ i ∈ isR, i ∉ isC) (hnj : va_nd js = true) (hj : js.map (fun i => (wr ++ w0 u2)[i]?) = (w uo).map some)
    (hc : cells + mc0 ≤ mc) (hs : slots + ms0 ≤ ms) (hz : ∀ k : Nat, res0 = .inr k → some ((.inr k : α ⊕ Nat), uo) = some (res, u1))
    (kk : ∀ (r : Int32), res0 = .inl r → ∀ (H1 : Heap) (locs1 : List Loc), va_P D vwCl (w uo) H1 → va_D A (w uo) → va_S A s.heap H1 locs1 → W p l e R s m args below meth c H1 locs1 (cells + mc0) (slots + ms0) (vx_MQ below Qc (xX D cI cZ w A res u1) args s mc ms A) (F0 m (pc + 3) ls (.int r :: rest))) : W p l e R s m args below meth c H locs cells slots (vx_MQ below Qc (xX D cI cZ w A res u1) args s mc ms A) (F0 m pc ls st0) := by
  have hFc := va_free (wc := w0 u0) hD hS hA isC hC
  refine vx_calli hr hS (fun q _ h => hFc q h) hFc (fun q _ h => hFc q h) (fun E ce q9 u t H1 locs1 ht hvm hw hB hz1 hk1 hS1 hce hcv hcl => ?_) (fun r2 u t H1 locs1 ht hvm hw hB hz1 hk1 hS1 => ?_)
  · subst hw
    obtain ⟨⟨k, hk, hE⟩, hP1, hK1, hD1⟩ := hB
    rw [ht] at hP1
    obtain ⟨hP2, hD2⟩ := va_join (wr := wr) hP hD isC isR hC hR hn hdis hk1 hFc hP1 hD1
    have hP3 := hP2.sub js (maps_fm hj)
    have hD3 := hD2.sub js hnj hj
    obtain ⟨e1, e2⟩ := so (hz k hk)
    subst e2
    exact vx_out (fun x hx => (hT x hx).elim) hlocks hce hcv hcl (fun t9 h9 hv9 => ⟨u1, rfl, ⟨⟨k, e1, hE⟩, by rw [h9]; exact hP3, va_K.moved hv9 hK, hD3⟩, hS1.F h9⟩) hS1.2.2 hc hs
  · obtain ⟨hr2, rfl⟩ := hw
    obtain ⟨hP1, hK1, hD1⟩ := hB
    rw [ht] at hP1
    obtain ⟨hP2, hD2⟩ := va_join (wr := wr) hP hD isC isR hC hR hn hdis hk1 hFc hP1 hD1
    exact kk r2 hr2 H1 locs1 (hP2.sub js (maps_fm hj)) (hD2.sub js hnj hj) hS1
theorem mx_v {α : Type} {Qc : Array Value → State → Outcome → State → Prop} {res : α ⊕ Nat} {uo u1 : S} {u0 u2 : S0} {res0 : Unit ⊕ Nat} {ws wr : va_W} {pc mc ms mc0 ms0 : Nat} {ls : Array Slot} {st0 rest : List Value} {a : Array Value} (isC isR js : List Nat)
    (hr : vx_Run p l e R s m args below meth c H locs cells slots mc0 ms0 (F0 m pc ls st0) rest (xV D cI cZ w0 (va_A (w0 u0) H.size) res0 u2 a) (xX D cI cZ w0 (va_A (w0 u0) H.size) res0 u2) (va_A (w0 u0) H.size))
    (hT : ∀ x ∈ c.exceptionTable.toList, False) (hlocks : meth.locks = false) (hK : va_K D vwCl (kT cI cZ) s)
    (hP : va_P D vwCl ws H) (hD : va_D A ws) (hS : va_S A s.heap H locs) (hA : ∀ q : Nat, s.heap.size ≤ q → A q) (hC : isC.map (fun i => ws[i]?) = (w0 u0).map some) (hR : isR.map (fun i => ws[i]?) = wr.map some) (hn : va_nd isR = true) (hdis : ∀ i ∈ isR, i ∉ isC) (hnj : va_nd js = true) (hj : js.map (fun i => (wr ++ w0 u2)[i]?) = (w uo).map some)
    (hc : cells + mc0 ≤ mc) (hs : slots + ms0 ≤ ms) (hz : ∀ k : Nat, res0 = .inr k → some ((.inr k : α ⊕ Nat), uo) = some (res, u1))
    (kk : ∀ (r : Unit), res0 = .inl r → ∀ (H1 : Heap) (locs1 : List Loc), va_P D vwCl (w uo) H1 → va_D A (w uo) → va_S A s.heap H1 locs1 → W p l e R s m args below meth c H1 locs1 (cells + mc0) (slots + ms0) (vx_MQ below Qc (xX D cI cZ w A res u1) args s mc ms A) (F0 m (pc + 3) ls rest)) : W p l e R s m args below meth c H locs cells slots (vx_MQ below Qc (xX D cI cZ w A res u1) args s mc ms A) (F0 m pc ls st0) := by
  have hFc := va_free (wc := w0 u0) hD hS hA isC hC
  refine vx_callv hr hS (fun q _ h => hFc q h) hFc (fun q _ h => hFc q h) (fun E ce q9 u t H1 locs1 ht hvm hw hB hz1 hk1 hS1 hce hcv hcl => ?_) (fun u t H1 locs1 ht hvm hw hB hz1 hk1 hS1 => ?_)
  · subst hw
    obtain ⟨⟨k, hk, hE⟩, hP1, hK1, hD1⟩ := hB
    rw [ht] at hP1
    obtain ⟨hP2, hD2⟩ := va_join (wr := wr) hP hD isC isR hC hR hn hdis hk1 hFc hP1 hD1
    have hP3 := hP2.sub js (maps_fm hj)
    have hD3 := hD2.sub js hnj hj
    obtain ⟨e1, e2⟩ := so (hz k hk)
    subst e2
    exact vx_out (fun x hx => (hT x hx).elim) hlocks hce hcv hcl (fun t9 h9 hv9 => ⟨u1, rfl, ⟨⟨k, e1, hE⟩, by rw [h9]; exact hP3, va_K.moved hv9 hK, hD3⟩, hS1.F h9⟩) hS1.2.2 hc hs
  · obtain ⟨hr2, rfl⟩ := hw
    obtain ⟨hP1, hK1, hD1⟩ := hB
    rw [ht] at hP1
    obtain ⟨hP2, hD2⟩ := va_join (wr := wr) hP hD isC isR hC hR hn hdis hk1 hFc hP1 hD1
    exact kk () hr2 H1 locs1 (hP2.sub js (maps_fm hj)) (hD2.sub js hnj hj) hS1
/-- the method's own throw -/
theorem x_throw {α : Type} {Qc : Array Value → State → Outcome → State → Prop} {cc : ByteArray} {nL : Nat} {ret : Option FieldType} {ws : List Cond} {u1 : S} {pc ik is ic k mc ms : Nat} {cls text : String} {ls : Array Slot} {lv : List (Nat × Value)} {rest : List Value} (C0 : mX l p s m args meth c D cI cZ sa A cc nL ret ws RX4) (hcls : cls = exN k) (hfit : Bundle.fit cls = true) (hstr : (is, text) ∈ strs)
    (hws : ∀ w ∈ (vx_atS RX4 ic cls ["java/lang/RuntimeException", "java/lang/Exception"]).filter goodWord, w ∈ ws) (hne : ∀ w ∈ (vx_atS RX4 ic cls ["java/lang/RuntimeException", "java/lang/Exception"]).filter (fun w => !goodWord w), w ∈ NEs) (hgood : ∀ w ∈ Cond.classLink RX4 ik cls :: Cond.initialized cls :: vx_atS RX4 ic cls ["java/lang/RuntimeException", "java/lang/Exception"], vx_ot w = true)
    (hk1 : Cond.classLink RX4 ik cls ∈ ws) (hk2 : Cond.initialized cls ∈ ws) (hP : va_P D vwCl (w u1) H) (hD : va_D A (w u1)) (hS : va_S A s.heap H locs) (hl : lv_has ls nL lv)
    (d0 : decode cc pc = .ok (.new ik, 3)) (d3 : decode cc (pc + 3) = .ok (.dup, 1)) (d4 : decode cc (pc + 4) = .ok (.ldc is, 2)) (d6 : decode cc (pc + 6) = .ok (.invokespecial ic, 3)) (d9 : decode cc (pc + 9) = .ok (.athrow, 1))
    (hRf : 5 < R.frames) (hRl : (rest.map fun v => v.category).sum + 82 ≤ R.locals) (hRc : cells + 1 ≤ R.cells) (hRs : slots + 6 ≤ R.slots) (hc : cells + 1 ≤ mc) (hs : slots + 6 ≤ ms) :
    W p l e R s m args below meth c H locs cells slots (vx_MQ below Qc (xX D cI cZ w A (Sum.inr k : α ⊕ Nat) u1) args s mc ms A) (F0 m pc ls rest) := by
  obtain ⟨⟨hx, hb, hml, hr, hown, hts, hlocks, hA, hK, hN⟩, hX, hlt, hT⟩ := C0
  obtain ⟨hX1, hX2, hX3, hX4⟩ := hX
  refine vx_throwS (names := ["java/lang/RuntimeException", "java/lang/Exception"]) hx hb hlt hown hfit (by decide +kernel) (hts _ hk1) (hts _ hk2) (hX1 _ hstr) (vx_hat (fun w hw => hts w (hws w hw)) hne hX2.use) hgood hX3 hX4 hS (by rw [hml]; exact hl.1) d0 d3 d4 d6 d9 (fun x hx => (hT x hx).elim) hRf hRl hRc hRs hlocks (fun t hv hsz hq => ?_) hS.2.2 hc hs
  have hPt : va_P D vwCl (w u1) t.heap := va_P.kept hP (fun i q hi => hq q.1 (hP i q hi).lt)
  exact ⟨u1, rfl, ⟨⟨k, rfl, hcls⟩, hPt, va_K.moved hv hK, hD⟩, Nat.le_trans hS.1 hsz, fun q h1 h2 => (hq q (Nat.lt_of_lt_of_le h1 hS.1)).trans (hS.2.1 q h1 h2)⟩
theorem x_throwW {α : Type} {Qc : Array Value → State → Outcome → State → Prop} {cc : ByteArray} {nL : Nat} {ret : Option FieldType} {ws : List Cond} {u1 : S} {pc ik is ic k mc ms : Nat} {cls text : String} {ls : Array Slot} {lv : List (Nat × Value)} {rest : List Value} (C0 : mX l p s m args meth c D cI cZ sa A cc nL ret ws RX4) (hcls : cls = exN k) (hfit : Bundle.fit cls = true) (hstr : (is, text) ∈ strs)
    (hws : ∀ w ∈ (vx_atS RX4 ic cls ["java/lang/RuntimeException", "java/lang/Exception"]).filter goodWord, w ∈ ws) (hne : ∀ w ∈ (vx_atS RX4 ic cls ["java/lang/RuntimeException", "java/lang/Exception"]).filter (fun w => !goodWord w), w ∈ NEs) (hgood : ∀ w ∈ Cond.classLink RX4 ik cls :: Cond.initialized cls :: vx_atS RX4 ic cls ["java/lang/RuntimeException", "java/lang/Exception"], vx_ot w = true)
    (hk1 : Cond.classLink RX4 ik cls ∈ ws) (hk2 : Cond.initialized cls ∈ ws) (hP : va_P D vwCl (w u1) H) (hD : va_D A (w u1)) (hS : va_S A s.heap H locs) (hl : lv_has ls nL lv)
    (d0 : decode cc pc = .ok (.new ik, 3)) (d3 : decode cc (pc + 3) = .ok (.dup, 1)) (d4 : decode cc (pc + 4) = .ok (.ldc_w is, 3)) (d6 : decode cc (pc + 7) = .ok (.invokespecial ic, 3)) (d9 : decode cc (pc + 10) = .ok (.athrow, 1))
    (hRf : 5 < R.frames) (hRl : (rest.map fun v => v.category).sum + 82 ≤ R.locals) (hRc : cells + 1 ≤ R.cells) (hRs : slots + 6 ≤ R.slots) (hc : cells + 1 ≤ mc) (hs : slots + 6 ≤ ms) :
    W p l e R s m args below meth c H locs cells slots (vx_MQ below Qc (xX D cI cZ w A (Sum.inr k : α ⊕ Nat) u1) args s mc ms A) (F0 m pc ls rest) := by
  obtain ⟨⟨hx, hb, hml, hr, hown, hts, hlocks, hA, hK, hN⟩, hX, hlt, hT⟩ := C0
  obtain ⟨hX1, hX2, hX3, hX4⟩ := hX
  refine vx_throwSW (names := ["java/lang/RuntimeException", "java/lang/Exception"]) hx hb hlt hown hfit (by decide +kernel) (hts _ hk1) (hts _ hk2) (hX1 _ hstr) (vx_hat (fun w hw => hts w (hws w hw)) hne hX2.use) hgood hX3 hX4 hS (by rw [hml]; exact hl.1) d0 d3 d4 d6 d9 (fun x hx => (hT x hx).elim) hRf hRl hRc hRs hlocks (fun t hv hsz hq => ?_) hS.2.2 hc hs
  have hPt : va_P D vwCl (w u1) t.heap := va_P.kept hP (fun i q hi => hq q.1 (hP i q hi).lt)
  exact ⟨u1, rfl, ⟨⟨k, rfl, hcls⟩, hPt, va_K.moved hv hK, hD⟩, Nat.le_trans hS.1 hsz, fun q h1 h2 => (hq q (Nat.lt_of_lt_of_le h1 hS.1)).trans (hS.2.1 q h1 h2)⟩
end XW
