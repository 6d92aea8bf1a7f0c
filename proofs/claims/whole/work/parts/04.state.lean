/-! what a state is: each object's slots as rows of ints (slot, place); a number is the row's place 0 -/
abbrev St : Type := Nat → Nat → Int32
def up2 (σ : St) (k j : Nat) (v : Int32) : St := fun a => if a = k then upd (σ k) j v else σ a
def upR (σ : St) (k : Nat) (f : Nat → Int32) : St := fun a => if a = k then f else σ a
def bnd {α β : Type} (x : α) (f : α → Option β) : Option β := f x
theorem bn {α β : Type} {x : α} {f : α → Option β} {y : β} (h : bnd x f = some y) : ∃ a, a = x ∧ f a = some y := ⟨x, rfl, h⟩
theorem ob {α β : Type} {o : Option α} {f : α → Option β} {y : β} (h : o.bind f = some y) : ∃ a, o = some a ∧ f a = some y := by
  cases o with
  | none => simp at h
  | some a => exact ⟨a, rfl, h⟩
theorem no {α : Type} {y : α} {P : Prop} (h : (none : Option α) = some y) : P := by cases h
theorem so {α β : Type} {a r : α} {b u : β} (h : some (a, b) = some (r, u)) : r = a ∧ u = b := ⟨(congrArg Prod.fst (Option.some.inj h)).symm, (congrArg Prod.snd (Option.some.inj h)).symm⟩
theorem so1 {α : Type} {a r : α} (h : some a = some r) : r = a := (Option.some.inj h).symm
theorem maps_fm {α β : Type} {g : α → Option β} : ∀ {is : List α} {w : List β}, is.map g = w.map some → is.filterMap g = w := by
  intro is
  induction is with
  | nil => intro w h; cases w with
    | nil => rfl
    | cons _ _ => simp at h
  | cons a is ih => intro w h; cases w with
    | nil => simp at h
    | cons b w =>
      simp only [List.map_cons, List.cons.injEq] at h
      rw [List.filterMap_cons, h.1, ih h.2]
def NWs : List Cond := [.methodLinkNest RX0 40 yX4_read RX4, .methodLinkNest RX0 48 yX4_numberOf RX4, .methodLinkNest RX1 26 yX3_init RX4, .methodLinkNest RX1 35 yX4_read RX4, .methodLinkNest RX1 102 yX4_codeOf RX4, .methodLinkNest RX1 121 yX4_isOf RX4, .methodLinkNest RX1 124 yX4_numberOf RX4, .methodLinkNest RX2 52 yX4_read RX4, .methodLinkNest RX3 38 yX4_read RX4, .methodLinkNest RX4 18 yX1_init RX4]
def NW (U : State) : Prop := ∀ w ∈ NWs, va_Nw w U
theorem NWs_on : ∀ w ∈ NWs, w.onTables = true := by
  intro w hw
  simp only [NWs, List.mem_cons, List.not_mem_nil, or_false] at hw
  rcases hw with rfl | rfl | rfl | rfl | rfl | rfl | rfl | rfl | rfl | rfl <;> rfl
theorem NW.same {u U : State} (h : u.vm = U.vm) (hN : NW u) : NW U := fun w hw => va_Nw.same (NWs_on w hw) h (hN w hw)
theorem NW.warm {s U : State} (hW : s.WarmedH U.vm) (hN : NW s) : NW U := by
  intro w hw
  have h := hN w hw
  simp only [NWs, List.mem_cons, List.not_mem_nil, or_false] at hw
  rcases hw with rfl | rfl | rfl | rfl | rfl | rfl | rfl | rfl | rfl | rfl <;> exact va_Nw.warmM hW h
section MW
variable {S : Type} {p : Program} {l : Launch} {e : Env} {R : Room} {s : State} {m : MethodId} {args : Array Value} {below : List Frame} {meth : Method} {c : Code} {H : Heap} {locs : List Loc} {D : va_G} {cI cZ : ClassId} {A : Nat → Prop} {w : S → va_W}
abbrev kT (cI cZ : ClassId) : List (ClassId × FieldType) := [(cI, .int), (cZ, .boolean)]
/-- the world w u, as a heap holds it -/
def bW (D : va_G) (cI cZ : ClassId) (w : S → va_W) (A : Nat → Prop) (u : S) (t : State) : Prop := va_P D vwCl (w u) t.heap ∧ va_K D vwCl (kT cI cZ) t ∧ va_D A (w u)
/-- a method's start in the world w u -/
def pW (D : va_G) (cI cZ : ClassId) (w : S → va_W) (av : List Value) (sz : Nat) (u : S) : Array Value → State → Prop := va_Pc av (fun U => U.heap.size = sz ∧ va_P D vwCl (w u) U.heap ∧ va_K D vwCl (kT cI cZ) U ∧ va_D (fun _ => True) (w u) ∧ NW U)
/-- a method that answers an int: where f = some (r, u1), it answers r, and the world is w u1 -/
def MI (l : Launch) (y : MethodName) (ws : List Cond) (rm : Room) (D : va_G) (cI cZ : ClassId) (w : S → va_W) (av : List Value) (u0 : S) (f : Option (Int32 × S)) : Prop := ∀ (r : Int32) (u1 : S), f = some (r, u1) → ∀ sz : Nat, Met l y ws rm (pW D cI cZ w av sz u0) (va_Qi (fun r2 u2 => r2 = r ∧ u2 = u1) (bW D cI cZ w (va_A (w u0) sz)) (va_A (w u0) sz)) 0 0 (va_A (w u0) sz)
def MV (l : Launch) (y : MethodName) (ws : List Cond) (rm : Room) (D : va_G) (cI cZ : ClassId) (w : S → va_W) (av : List Value) (u0 : S) (f : Option S) : Prop := ∀ (u1 : S), f = some u1 → ∀ sz : Nat, Met l y ws rm (pW D cI cZ w av sz u0) (va_Qv (fun u2 => u2 = u1) (bW D cI cZ w (va_A (w u0) sz)) (va_A (w u0) sz)) 0 0 (va_A (w u0) sz)
/-- what holds throughout a method's walk -/
def mB (p : Program) (s : State) (m : MethodId) (args : Array Value) (meth : Method) (c : Code) (D : va_G) (cI cZ : ClassId) (A : Nat → Prop) (cc : ByteArray) (nL : Nat) (ret : Option FieldType) (ws : List Cond) (own : String) : Prop :=
  p.tables.exec = Jvm.exec ∧ c.code = cc ∧ c.maxLocals = nL ∧ meth.sig.returnType = ret ∧ s.vm.findClass own = some m.cls ∧ (∀ w ∈ ws, w.before args s = true) ∧ meth.locks = false ∧ (∀ q : Nat, s.heap.size ≤ q → A q) ∧ va_K D vwCl (kT cI cZ) s ∧ NW s
abbrev QI (below : List Frame) (args : Array Value) (s : State) (D : va_G) (cI cZ : ClassId) (w : S → va_W) (A : Nat → Prop) (r : Int32) (u1 : S) : State → Prop := MQ below (va_Qi (fun r2 u2 => r2 = r ∧ u2 = u1) (bW D cI cZ w A) A) args s 0 0 A
abbrev QV (below : List Frame) (args : Array Value) (s : State) (D : va_G) (cI cZ : ClassId) (w : S → va_W) (A : Nat → Prop) (u1 : S) : State → Prop := MQ below (va_Qv (fun u2 => u2 = u1) (bW D cI cZ w A) A) args s 0 0 A
theorem pW_blind {av : List Value} {sz : Nat} {u : S} : FrameBlind (pW D cI cZ w av sz u) := fun a U g mk q => by
  obtain ⟨q0, q1, qP, qK, qD, qN⟩ := q
  exact ⟨q0, q1, qP, va_K.moved (u := U) (U := U.calling g mk a) (Vm.Alike.refl U.vm) qK, qD, NW.same (u := U) rfl qN⟩
theorem MI.of {y : MethodName} {ws ws' : List Cond} {rm : Room} {av : List Value} {u0 : S} {f : Option (Int32 × S)} {cc : ByteArray} {maxL : Nat} {ret : Option FieldType} {own : String} (hy : plainName y.cls = true) (hown : y.cls = own) (hw : ws = Cond.code y cc maxL ret :: ws') (hen : (lg_sl av).length ≤ maxL)
    (body : ∀ (r : Int32) (u1 : S), f = some (r, u1) → ∀ p e s m args below meth c A, mB p s m args meth c D cI cZ A cc maxL ret ws own → ∀ (H : Heap) (locs : List Loc) (ls : Array Slot), va_P D vwCl (w u0) H → va_D A (w u0) → va_S A s.heap H locs → lv_has ls maxL (lv_args 0 av) → W p l e rm s m args below meth c H locs 0 0 (QI below args s D cI cZ w A r u1) (F0 m 0 ls [])) : MI l y ws rm D cI cZ w av u0 f := by
  intro r u1 hf sz
  refine Met.ofW (cc := cc) (maxL := maxL) (ret := ret) hy hw ?_
  intro p e s m args below meth c s₁ B hml hv
  obtain ⟨rfl, hsz, hP, hK, hD0, hN⟩ := hv
  subst hsz
  have hl := lv_entry av hen
  rw [lg_entry_eq]
  generalize (lg_sl av ++ List.replicate (maxL - (lg_sl av).length) Slot.unset).toArray = ls at hl ⊢
  exact body r u1 hf p e s m _ below meth c _ ⟨B.exec, B.bytes, hml, B.returns, hown ▸ findClass_of_methodNamed B.named, atoms_spec (ws := ws) B.pre, B.notSynchronized, fun q h => Or.inr h, hK, hN⟩ s.heap [] ls hP hD0.self va_S.rf hl
theorem MV.of {y : MethodName} {ws ws' : List Cond} {rm : Room} {av : List Value} {u0 : S} {f : Option S} {cc : ByteArray} {maxL : Nat} {ret : Option FieldType} {own : String} (hy : plainName y.cls = true) (hown : y.cls = own) (hw : ws = Cond.code y cc maxL ret :: ws') (hen : (lg_sl av).length ≤ maxL)
    (body : ∀ (u1 : S), f = some u1 → ∀ p e s m args below meth c A, mB p s m args meth c D cI cZ A cc maxL ret ws own → ∀ (H : Heap) (locs : List Loc) (ls : Array Slot), va_P D vwCl (w u0) H → va_D A (w u0) → va_S A s.heap H locs → lv_has ls maxL (lv_args 0 av) → W p l e rm s m args below meth c H locs 0 0 (QV below args s D cI cZ w A u1) (F0 m 0 ls [])) : MV l y ws rm D cI cZ w av u0 f := by
  intro u1 hf sz
  refine Met.ofW (cc := cc) (maxL := maxL) (ret := ret) hy hw ?_
  intro p e s m args below meth c s₁ B hml hv
  obtain ⟨rfl, hsz, hP, hK, hD0, hN⟩ := hv
  subst hsz
  have hl := lv_entry av hen
  rw [lg_entry_eq]
  generalize (lg_sl av ++ List.replicate (maxL - (lg_sl av).length) Slot.unset).toArray = ls at hl ⊢
  exact body u1 hf p e s m _ below meth c _ ⟨B.exec, B.bytes, hml, B.returns, hown ▸ findClass_of_methodNamed B.named, atoms_spec (ws := ws) B.pre, B.notSynchronized, fun q h => Or.inr h, hK, hN⟩ s.heap [] ls hP hD0.self va_S.rf hl
theorem ret_i {cc : ByteArray} {nL : Nat} {ws : List Cond} {own : String} {r : Int32} {u1 : S} {pc : Nat} {ls : Array Slot} (C0 : mB p s m args meth c D cI cZ A cc nL (some .int) ws own) (hP : va_P D vwCl (w u1) H) (hD : va_D A (w u1)) (hS : va_S A s.heap H locs) (hdg : decode cc pc = .ok (.ireturn, 1)) : W p l e R s m args below meth c H locs 0 0 (QI below args s D cI cZ w A r u1) (F0 m pc ls [.int r]) := by
  obtain ⟨hx, hb, hml, hr, hown, hts, hlocks, hA, hK, hN⟩ := C0
  exact W.iret (v := r) hx hb hr (fun t ht hW => ⟨⟨r, u1, rfl, ⟨rfl, rfl⟩, by rw [ht]; exact hP, va_K.moved hW.alike hK, hD⟩, hS.F ht⟩) hS.2.2 hdg hlocks
theorem ret_z {cc : ByteArray} {nL : Nat} {ws : List Cond} {own : String} {r : Int32} {u1 : S} {pc : Nat} {ls : Array Slot} (C0 : mB p s m args meth c D cI cZ A cc nL (some .boolean) ws own) (h01 : r = 0 ∨ r = 1) (hP : va_P D vwCl (w u1) H) (hD : va_D A (w u1)) (hS : va_S A s.heap H locs) (hdg : decode cc pc = .ok (.ireturn, 1)) : W p l e R s m args below meth c H locs 0 0 (QI below args s D cI cZ w A r u1) (F0 m pc ls [.int r]) := by
  obtain ⟨hx, hb, hml, hr, hown, hts, hlocks, hA, hK, hN⟩ := C0
  exact W.zret (v := r) hx hb hr (by rcases h01 with rfl | rfl <;> rfl) (fun t ht hW => ⟨⟨r, u1, rfl, ⟨rfl, rfl⟩, by rw [ht]; exact hP, va_K.moved hW.alike hK, hD⟩, hS.F ht⟩) hS.2.2 hdg hlocks
theorem ret_v {cc : ByteArray} {nL : Nat} {ws : List Cond} {own : String} {u1 : S} {pc : Nat} {ls : Array Slot} (C0 : mB p s m args meth c D cI cZ A cc nL none ws own) (hP : va_P D vwCl (w u1) H) (hD : va_D A (w u1)) (hS : va_S A s.heap H locs) (hdg : decode cc pc = .ok (.return_, 1)) : W p l e R s m args below meth c H locs 0 0 (QV below args s D cI cZ w A u1) (F0 m pc ls []) := by
  obtain ⟨hx, hb, hml, hr, hown, hts, hlocks, hA, hK, hN⟩ := C0
  exact W.vret hx hb hr (fun t ht hW => ⟨⟨u1, rfl, rfl, by rw [ht]; exact hP, va_K.moved hW.alike hK, hD⟩, hS.F ht⟩) hS.2.2 hdg hlocks
/-- a call's start, out of the caller's world by the callee's places -/
theorem pV {u0 : S} {ws : va_W} {C : String} {T : u_T} {n ci : Nat} {b : Nat} {fs : List Value} {As : List Value} (isC : List Nat) (hP : va_P D vwCl ws H) (hD : va_D A ws) (hK : va_K D vwCl (kT cI cZ) s) (hN : NW s) (hC : isC.map (fun i => ws[i]?) = (w u0).map some) (hn : va_nd isC = true) (hc : vwCl[ci]? = some (C, T, n)) (he : (w u0)[0]? = some (b, .inr (ci, fs))) : PreV s H C b (pW D cI cZ w (.ref b :: As) H.size u0) As := by
  have hPc := hP.sub isC (maps_fm hC)
  have hDc := hD.sub isC hn hC
  exact ⟨pW_blind, va_recv hK hPc hc he, fun U hU hW => ⟨rfl, by rw [hU], by rw [hU]; exact hPc, va_K.moved hW.alike hK, hDc.weaken (fun _ _ _ _ => trivial), NW.warm hW hN⟩⟩
theorem pS {u0 : S} {ws : va_W} {As : List Value} (isC : List Nat) (hP : va_P D vwCl ws H) (hD : va_D A ws) (hK : va_K D vwCl (kT cI cZ) s) (hN : NW s) (hC : isC.map (fun i => ws[i]?) = (w u0).map some) (hn : va_nd isC = true) : PreS s H (pW D cI cZ w As H.size u0) As := by
  have hPc := hP.sub isC (maps_fm hC)
  have hDc := hD.sub isC hn hC
  exact ⟨pW_blind, fun U hU hW => ⟨rfl, by rw [hU], by rw [hU]; exact hPc, va_K.moved hW.alike hK, hDc.weaken (fun _ _ _ _ => trivial), NW.warm hW hN⟩⟩
/-- behind a call: the callee's world beside the rest, in the caller's order -/
theorem mc_i {Q : State → Prop} {u0 u1 : S} {r : Int32} {ws wr ws' : va_W} {pc : Nat} {ls : Array Slot} {st0 rest : List Value} {a : Array Value} (isC isR js : List Nat)
    (hr : va_Run p l e R s m args below meth c H locs 0 0 0 0 (F0 m pc ls st0) rest (va_Qi (fun r2 u2 => r2 = r ∧ u2 = u1) (bW D cI cZ w (va_A (w u0) H.size)) (va_A (w u0) H.size) a) (va_A (w u0) H.size))
    (hP : va_P D vwCl ws H) (hD : va_D A ws) (hS : va_S A s.heap H locs) (hA : ∀ q : Nat, s.heap.size ≤ q → A q) (hC : isC.map (fun i => ws[i]?) = (w u0).map some) (hR : isR.map (fun i => ws[i]?) = wr.map some) (hn : va_nd isR = true) (hdis : ∀ i ∈ isR, i ∉ isC) (hnj : va_nd js = true) (hj : js.map (fun i => (wr ++ w u1)[i]?) = ws'.map some)
    (kk : ∀ (H1 : Heap) (locs1 : List Loc), va_P D vwCl ws' H1 → va_D A ws' → va_S A s.heap H1 locs1 → W p l e R s m args below meth c H1 locs1 0 0 Q (F0 m (pc + 3) ls (.int r :: rest))) : W p l e R s m args below meth c H locs 0 0 Q (F0 m pc ls st0) := by
  have hFc := va_free (wc := w u0) hD hS hA isC hC
  refine va_calli hr hS (fun q _ h => hFc q h) hFc (fun r2 u t H1 locs ht hvm hw hB hz1 hk1 hS => ?_)
  obtain ⟨rfl, rfl⟩ := hw
  obtain ⟨hP1, hK1, hD1⟩ := hB
  rw [ht] at hP1
  obtain ⟨hP, hD⟩ := va_join (wr := wr) hP hD isC isR hC hR hn hdis hk1 hFc hP1 hD1
  exact kk H1 locs (hP.sub js (maps_fm hj)) (hD.sub js hnj hj) hS
theorem mc_v {Q : State → Prop} {u0 u1 : S} {ws wr ws' : va_W} {pc : Nat} {ls : Array Slot} {st0 rest : List Value} {a : Array Value} (isC isR js : List Nat)
    (hr : va_Run p l e R s m args below meth c H locs 0 0 0 0 (F0 m pc ls st0) rest (va_Qv (fun u2 => u2 = u1) (bW D cI cZ w (va_A (w u0) H.size)) (va_A (w u0) H.size) a) (va_A (w u0) H.size))
    (hP : va_P D vwCl ws H) (hD : va_D A ws) (hS : va_S A s.heap H locs) (hA : ∀ q : Nat, s.heap.size ≤ q → A q) (hC : isC.map (fun i => ws[i]?) = (w u0).map some) (hR : isR.map (fun i => ws[i]?) = wr.map some) (hn : va_nd isR = true) (hdis : ∀ i ∈ isR, i ∉ isC) (hnj : va_nd js = true) (hj : js.map (fun i => (wr ++ w u1)[i]?) = ws'.map some)
    (kk : ∀ (H1 : Heap) (locs1 : List Loc), va_P D vwCl ws' H1 → va_D A ws' → va_S A s.heap H1 locs1 → W p l e R s m args below meth c H1 locs1 0 0 Q (F0 m (pc + 3) ls rest)) : W p l e R s m args below meth c H locs 0 0 Q (F0 m pc ls st0) := by
  have hFc := va_free (wc := w u0) hD hS hA isC hC
  refine va_callv hr hS (fun q _ h => hFc q h) hFc (fun u t H1 locs ht hvm hw hB hz1 hk1 hS => ?_)
  subst hw
  obtain ⟨hP1, hK1, hD1⟩ := hB
  rw [ht] at hP1
  obtain ⟨hP, hD⟩ := va_join (wr := wr) hP hD isC isR hC hR hn hdis hk1 hFc hP1 hD1
  exact kk H1 locs (hP.sub js (maps_fm hj)) (hD.sub js hnj hj) hS
end MW
/-! the worlds: an object, then its arrays, in the order of the slots -/
def wX0o (a0 : Nat → Nat) (cI cZ : ClassId) (b : St) : va_W := [(a0 0, .inr (0, [.ref (a0 1), .ref (a0 2), .ref (a0 3), .ref (a0 4), .ref (a0 5), .ref (a0 6), .int (b 6 0)])), (a0 1, .inl (cI, 2000, .inl (b 0))), (a0 2, .inl (cI, 2000, .inl (b 1))), (a0 3, .inl (cI, 2000, .inl (b 2))), (a0 4, .inl (cI, 2000, .inl (b 3))), (a0 5, .inl (cI, 2000, .inl (b 4))), (a0 6, .inl (cI, 1000, .inl (b 5)))]
def wX2o (a2 : Nat → Nat) (cI cZ : ClassId) (y : St) : va_W := [(a2 0, .inr (2, [.ref (a2 1), .ref (a2 2), .ref (a2 3), .ref (a2 4), .ref (a2 5), .ref (a2 6), .ref (a2 7), .ref (a2 8), .ref (a2 9), .ref (a2 10), .int (y 10 0), .int (y 11 0), .int (y 12 0), .int (y 13 0)])), (a2 1, .inl (cI, 8000, .inl (y 0))), (a2 2, .inl (cI, 8000, .inl (y 1))), (a2 3, .inl (cI, 8000, .inl (y 2))), (a2 4, .inl (cI, 8000, .inl (y 3))), (a2 5, .inl (cI, 8000, .inl (y 4))), (a2 6, .inl (cI, 8000, .inl (y 5))), (a2 7, .inl (cI, 4096, .inl (y 6))), (a2 8, .inl (cI, 8000, .inl (y 7))), (a2 9, .inl (cI, 8000, .inl (y 8))), (a2 10, .inl (cI, 512, .inl (y 9)))]
def wX3o (a3 : Nat → Nat) (cI cZ : ClassId) (k : St) : va_W := [(a3 0, .inr (3, [.ref (a3 1), .ref (a3 2), .int (k 2 0), .int (k 3 0), .int (k 4 0), .int (k 5 0)])), (a3 1, .inl (cI, 121, .inl (k 0))), (a3 2, .inl (cI, 121, .inl (k 1)))]
def wX4o (a4 : Nat → Nat) (a2 : Nat → Nat) (a1 : Nat → Nat) (a0 : Nat → Nat) (cI cZ : ClassId) (x : St) : va_W := [(a4 0, .inr (4, [.ref (a2 0), .ref (a1 0), .ref (a0 0), .ref (a4 4), .ref (a4 5), .int (x 5 0), .int (x 6 0)])), (a4 4, .inl (cI, 40, .inl (x 3))), (a4 5, .inl (cI, 200, .inl (x 4)))]
def wX5o (a5 : Nat → Nat) (cI cZ : ClassId) (σ : St) : va_W := [(a5 0, .inr (5, [.int (σ 0 0), .int (σ 1 0), .ref (a5 3), .int (σ 3 0), .ref (a5 5), .int (σ 5 0), .ref (a5 7), .ref (a5 8), .ref (a5 9), .ref (a5 10), .ref (a5 11), .ref (a5 12), .ref (a5 13), .int (σ 13 0), .int (σ 14 0), .ref (a5 16), .ref (a5 17), .ref (a5 18), .int (σ 18 0), .ref (a5 20), .ref (a5 21), .ref (a5 22), .ref (a5 23), .ref (a5 24), .ref (a5 25), .ref (a5 26), .int (σ 26 0), .ref (a5 28), .ref (a5 29), .ref (a5 30)])), (a5 3, .inl (cI, 40, .inl (σ 2))), (a5 5, .inl (cI, 200, .inl (σ 4))), (a5 7, .inl (cI, 16000, .inl (σ 6))), (a5 8, .inl (cI, 16000, .inl (σ 7))), (a5 9, .inl (cI, 16000, .inl (σ 8))), (a5 10, .inl (cI, 16000, .inl (σ 9))), (a5 11, .inl (cI, 16000, .inl (σ 10))), (a5 12, .inl (cI, 16000, .inl (σ 11))), (a5 13, .inl (cI, 4096, .inl (σ 12))), (a5 16, .inl (cI, 4200, .inl (σ 15))), (a5 17, .inl (cI, 16000, .inl (σ 16))), (a5 18, .inl (cZ, 16000, .inl (σ 17))), (a5 20, .inl (cI, 4201, .inl (σ 19))), (a5 21, .inl (cI, 34100, .inl (σ 20))), (a5 22, .inl (cI, 34100, .inl (σ 21))), (a5 23, .inl (cI, 64, .inl (σ 22))), (a5 24, .inl (cI, 64, .inl (σ 23))), (a5 25, .inl (cI, 130, .inl (σ 24))), (a5 26, .inl (cI, 1000, .inl (σ 25))), (a5 28, .inl (cI, 4000, .inl (σ 27))), (a5 29, .inl (cI, 4000, .inl (σ 28))), (a5 30, .inl (cI, 4000, .inl (σ 29)))]
def wX1o (a1 : Nat → Nat) (a3 : Nat → Nat) (cI cZ : ClassId) (t : St) : va_W := [(a1 0, .inr (1, [.ref (a1 1), .ref (a1 2), .ref (a1 3), .ref (a1 4), .ref (a3 0), .int (t 5 0), .int (t 6 0), .int (t 7 0)])), (a1 1, .inl (cI, 30000, .inl (t 0))), (a1 2, .inl (cI, 30000, .inl (t 1))), (a1 3, .inl (cI, 513, .inl (t 2))), (a1 4, .inl (cI, 512, .inl (t 3)))]
abbrev wX0 (a0 : Nat → Nat) (cI cZ : ClassId) (u : St) : va_W := wX0o a0 cI cZ u
abbrev wX1 (a1 a3 : Nat → Nat) (cI cZ : ClassId) (u : St × St) : va_W := (wX1o a1 a3 cI cZ u.1) ++ (wX3o a3 cI cZ u.2)
abbrev wX2 (a2 : Nat → Nat) (cI cZ : ClassId) (u : St) : va_W := wX2o a2 cI cZ u
abbrev wX3 (a3 : Nat → Nat) (cI cZ : ClassId) (u : St) : va_W := wX3o a3 cI cZ u
abbrev wX4 (a4 a2 a1 a3 a0 : Nat → Nat) (cI cZ : ClassId) (u : St × St × St × St × St) : va_W := (wX4o a4 a2 a1 a0 cI cZ u.1) ++ (wX2o a2 cI cZ u.2.1) ++ (wX1o a1 a3 cI cZ u.2.2.1) ++ (wX3o a3 cI cZ u.2.2.2.1) ++ (wX0o a0 cI cZ u.2.2.2.2)
abbrev wX5 (a5 : Nat → Nat) (cI cZ : ClassId) (u : St) : va_W := wX5o a5 cI cZ u
abbrev wX1y (a1 a3 a2 : Nat → Nat) (cI cZ : ClassId) (u : St × St × St) : va_W := (wX1o a1 a3 cI cZ u.1) ++ (wX3o a3 cI cZ u.2.1) ++ (wX2o a2 cI cZ u.2.2)
abbrev wAr (q n : Nat) (cI : ClassId) (u : Nat → Int32) (_ : Unit) : va_W := [(q, .inl (cI, n, .inl u))]
abbrev wNo (_ : Unit) : va_W := []
theorem nw_X0_40 {U : State} (h : NW U) : va_Nw (.methodLinkNest RX0 40 yX4_read RX4) U := h _ (by simp [NWs])
theorem nw_X0_48 {U : State} (h : NW U) : va_Nw (.methodLinkNest RX0 48 yX4_numberOf RX4) U := h _ (by simp [NWs])
theorem nw_X1_26 {U : State} (h : NW U) : va_Nw (.methodLinkNest RX1 26 yX3_init RX4) U := h _ (by simp [NWs])
theorem nw_X1_35 {U : State} (h : NW U) : va_Nw (.methodLinkNest RX1 35 yX4_read RX4) U := h _ (by simp [NWs])
theorem nw_X1_102 {U : State} (h : NW U) : va_Nw (.methodLinkNest RX1 102 yX4_codeOf RX4) U := h _ (by simp [NWs])
theorem nw_X1_121 {U : State} (h : NW U) : va_Nw (.methodLinkNest RX1 121 yX4_isOf RX4) U := h _ (by simp [NWs])
theorem nw_X1_124 {U : State} (h : NW U) : va_Nw (.methodLinkNest RX1 124 yX4_numberOf RX4) U := h _ (by simp [NWs])
theorem nw_X2_52 {U : State} (h : NW U) : va_Nw (.methodLinkNest RX2 52 yX4_read RX4) U := h _ (by simp [NWs])
theorem nw_X3_38 {U : State} (h : NW U) : va_Nw (.methodLinkNest RX3 38 yX4_read RX4) U := h _ (by simp [NWs])
theorem nw_X4_18 {U : State} (h : NW U) : va_Nw (.methodLinkNest RX4 18 yX1_init RX4) U := h _ (by simp [NWs])
