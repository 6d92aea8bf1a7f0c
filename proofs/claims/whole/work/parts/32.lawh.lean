/-! THE CLAIM OUT OF ONE WALK OF THE LAW'S BODY. Your part is whole_start (and what it stands on); all else here is the same for every law, but numbers. -/
def R_law : String := "TermLoomLaw"
def lw_P (b : Addr) (xs : List Int32) (args : Array Value) (s : State) : Prop := args = #[.ref b] ∧ s.IntsAt b xs ∧ xs.length ≤ 2048 ∧ (Jvm.Cond.and given_1 narrow_1).before args s = true
def lw_Q (_ : Array Value) (s : State) (o : Outcome) (t : State) : Prop := o = .returned (some (.int 1)) ∧ Framed s o t [] 601024 7293034
def lw_Z (below : List Frame) (a : Array Value) (s : State) : State → Prop := fun t => ∃ o, t.status = .running ∧ Ended t below o ∧ lw_Q a s o t
/-- the law's own end, with 1 on the stack, nothing written that was there before, its room as the claim has it -/
theorem lw_ret {p : Program} {l : Launch} {e : Env} {s : State} {m : MethodId} {below : List Frame} {meth : Method} {c : Code} {b : Nat} (hx : p.tables.exec = Jvm.exec) (hb : c.code = code) (hr : meth.sig.returnType = ret) (hlocks : meth.locks = false) {pc : Nat} {H : Heap} {ls : Array Slot} (hdg : decode code pc = .ok (.ireturn, 1)) : W p l e room_1 s m #[Value.ref b] below meth c H [] 601024 7293034 (lw_Z below #[Value.ref b] s) (F0 m pc ls [.int 1]) := by
  intro T hT X
  obtain ⟨fs, hret, hrun, hended, hW, hframe⟩ := X.leave (v := some (.int 1)) (hlocks := hlocks) (fun h => by rw [hr] at h; cases h)
  have hmeth' : T.vm.method? m = some meth := X.method'
  refine ⟨T.setFrames fs, ?_, .returned (some (.int 1)), hrun, hended, rfl, ⟨_, rfl⟩, hW, hframe⟩
  jvm_step X.here [X.here.top, hx, hb, hdg, hmeth', hr, ret, narrow_b1]
  (try refine ⟨rfl, ?_⟩); (try refine ⟨rfl, ?_⟩)
  first | (intro acts; rw [hret _ acts rfl rfl rfl]) | rw [hret _ _ rfl rfl rfl]
  exact Steps.refl _
/-- what holds at the law's entry: the machine, the code, the tables' words (any of lw_tbl by 'hts w (by decide +kernel)'), the script of L ints xs at the cell b, what the Statement gives of the start (any of its parts by flat_of_before) -/
def lw_At (p : Program) (s : State) (m : MethodId) (meth : Method) (c : Code) (b L : Nat) (xs : Nat → Int32) : Prop :=
  p.tables.exec = Jvm.exec ∧ c.code = code ∧ meth.sig.returnType = ret ∧ c.maxLocals = 7 ∧ s.vm.findClass R_law = some m.cls ∧ (∀ w ∈ lw_tbl, w.before #[Value.ref b] s = true) ∧ va_X b L xs s s.heap ∧ b < s.heap.size ∧ meth.locks = false ∧ (Jvm.Cond.and given_1 narrow_1).before #[Value.ref b] s = true

/-! the law's body -/
abbrev wLL (a4 a2 a1 a3 a0 : Nat → Nat) (ao : Nat) (a5 : Nat → Nat) (cI cZ cJ : ClassId) (u : SL × St) : va_W := wL4 a4 a2 a1 a3 a0 ao cI cZ cJ u.1 ++ wX5 a5 cI cZ u.2
section LB
variable {S0 : Type} {p : Program} {l : Launch} {e : Env} {R : Room} {s : State} {m : MethodId} {args : Array Value} {below : List Frame} {meth : Method} {c : Code} {H : Heap} {locs : List Loc} {cells slots : Nat} {D : va_G} {cI cZ cJ : ClassId} {A : Nat → Prop} {w0 : S0 → va_W} {sa : Nat → Nat}
theorem pLS {u0 : S0} {ws : va_W} {As : List Value} (isC : List Nat) (hP : va_P D vwCl ws H) (hD : va_D A ws) (hS : va_S A s.heap H locs) (hA : ∀ q : Nat, s.heap.size ≤ q → A q) (hK : va_K D vwCl (kT3 cI cZ cJ) s) (hN : NW s) (hX : XP sa A s s.heap) (hNC : NC s) (hC : isC.map (fun i => ws[i]?) = (w0 u0).map some) (hn : va_nd isC = true) : PreS s H (pL D cI cZ cJ sa w0 As H.size u0) As := by
  have hPc := hP.sub isC (maps_fm hC)
  have hDc := hD.sub isC hn hC
  have hFc := va_free (wc := w0 u0) hD hS hA isC hC
  exact ⟨pL_blind, fun U hU hW => ⟨rfl, by rw [hU], by rw [hU]; exact hPc, va_K.moved hW.alike hK, hDc.weaken (fun _ _ _ _ => trivial), NW.warm hW hN, hX.call hS hFc hU hW, NC.moved hW.alike hNC⟩⟩
theorem mh_i {Q : State → Prop} {u0 u1 : S0} {r : Int32} {ws wr ws' : va_W} {pc mc0 ms0 : Nat} {ls : Array Slot} {st0 rest : List Value} {a : Array Value} (isC isR js : List Nat)
    (hr : va_Run p l e R s m args below meth c H locs cells slots mc0 ms0 (F0 m pc ls st0) rest (qL D cI cZ cJ w0 (va_A (w0 u0) H.size) r u1 a) (va_A (w0 u0) H.size))
    (hP : va_P D vwCl ws H) (hD : va_D A ws) (hS : va_S A s.heap H locs) (hA : ∀ q : Nat, s.heap.size ≤ q → A q) (hC : isC.map (fun i => ws[i]?) = (w0 u0).map some) (hR : isR.map (fun i => ws[i]?) = wr.map some) (hn : va_nd isR = true) (hdis : ∀ i ∈ isR, i ∉ isC) (hnj : va_nd js = true) (hj : js.map (fun i => (wr ++ w0 u1)[i]?) = ws'.map some)
    (kk : ∀ (H1 : Heap) (locs1 : List Loc), va_P D vwCl ws' H1 → va_D A ws' → va_S A s.heap H1 locs1 → W p l e R s m args below meth c H1 locs1 (cells + mc0) (slots + ms0) Q (F0 m (pc + 3) ls (.int r :: rest))) : W p l e R s m args below meth c H locs cells slots Q (F0 m pc ls st0) := by
  have hFc := va_free (wc := w0 u0) hD hS hA isC hC
  refine va_calli hr hS (fun q _ h => hFc q h) hFc (fun r2 u t H1 locs ht hvm hw hB hz1 hk1 hS => ?_)
  obtain ⟨rfl, rfl⟩ := hw
  obtain ⟨hP1, hK1, hD1⟩ := hB
  rw [ht] at hP1
  obtain ⟨hP, hD⟩ := va_join (wr := wr) hP hD isC isR hC hR hn hdis hk1 hFc hP1 hD1
  exact kk H1 locs (hP.sub js (maps_fm hj)) (hD.sub js hnj hj) hS
end LB
/-- what holds throughout the law -/
def lC (p : Program) (l : Launch) (s : State) (m : MethodId) (meth : Method) (c : Code) (b L : Nat) (xs : Nat → Int32) (D : va_G) (cI cZ cJ : ClassId) (sa : Nat → Nat) : Prop :=
  p.tables.exec = Jvm.exec ∧ c.code = cL_law ∧ meth.sig.returnType = ret ∧ c.maxLocals = 7 ∧ s.vm.findClass RL = some m.cls ∧ (∀ w ∈ wsL_law, w.before #[Value.ref b] s = true) ∧ va_X b L xs s s.heap ∧ b < s.heap.size ∧ meth.locks = false ∧ va_K D vwCl (kT3 cI cZ cJ) s ∧ NW s ∧ XP sa (fun q : Nat => s.heap.size ≤ q) s s.heap ∧ NC s ∧ l.stackTraces = false
abbrev KPl (p : Program) (l : Launch) (e : Env) (s : State) (m : MethodId) (below : List Frame) (meth : Method) (c : Code) (D : va_G) (cI cZ cJ : ClassId) (a4 a2 a1 a3 a0 a5 : Nat → Nat) (ao b : Nat) (n : Nat) (K : Int32 → S5 → (Nat → Int64) → St → Option Int32) (pc : Nat) : Prop := ∀ (i : Int32) (u : S5) (o : Nat → Int64) (σ : St) (cells slots : Nat) (H : Heap) (locs : List Loc) (ls : Array Slot), cells + 5 * n ≤ 601024 → slots + 30 * n ≤ 7293034 → va_P D vwCl (wLL a4 a2 a1 a3 a0 ao a5 cI cZ cJ ((u, o), σ)) H → va_D (fun q : Nat => s.heap.size ≤ q) (wLL a4 a2 a1 a3 a0 ao a5 cI cZ cJ ((u, o), σ)) → va_S (fun q : Nat => s.heap.size ≤ q) s.heap H locs → lv_has ls 7 [(0, .ref b), (1, .ref (a4 0)), (2, .ref (a5 0)), (3, .ref ao), (4, .int i)] → K i u o σ = some 1 → W p l e room_1 s m #[Value.ref b] below meth c H locs cells slots (lw_Z below #[Value.ref b] s) (F0 m pc ls [])

