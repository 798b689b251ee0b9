/-! 40: methods that may throw -/
def exI : String := "java/lang/IndexOutOfBoundsException"
def exS : String := "java/lang/IllegalStateException"
def exA : String := "java/lang/IllegalArgumentException"
abbrev exN : List String := ["java/lang/RuntimeException", "java/lang/Exception"]
def exD1 : MethodName := Bundle.initS "java/lang/RuntimeException"
def exD2 : MethodName := Bundle.initS "java/lang/Exception"
def exD3 : MethodName := Bundle.initS Bundle.tN
theorem ng1 : (vx_atS RX3 151 "java/lang/IndexOutOfBoundsException" exN).filter (fun w => !goodWord w) = [.declares exD1, .declares exD2, .declares exD3, .castable exI exI] := by decide +kernel
theorem ng2 : (vx_atS RX3 42 "java/lang/IllegalStateException" exN).filter (fun w => !goodWord w) = [.declares exD1, .declares exD2, .declares exD3, .castable exS exS] := by decide +kernel
theorem ng3 : (vx_atS RX3 202 "java/lang/IllegalArgumentException" exN).filter (fun w => !goodWord w) = [.declares exD1, .declares exD2, .declares exD3, .castable exA exA] := by decide +kernel
def NwD (U : State) : Prop := va_Nw (.declares exD1) U ∧ va_Nw (.declares exD2) U ∧ va_Nw (.declares exD3) U
/-- the texts of the class, and what no list of words may hold of a throw -/
def TX (U : State) : Prop :=
  (∃ a, vk_R RX3 40 "there are 12 states" a U) ∧ (∃ a, vk_R RX3 67 "a state has steps with both labels" a U) ∧ (∃ a, vk_R RX3 149 "no such place" a U) ∧ (∃ a, vk_R RX3 171 "no such marking" a U) ∧
  (∃ a, vk_R RX3 191 "no such state" a U) ∧ (∃ a, vk_R RX3 193 "no such label" a U) ∧ (∃ a, vk_R RX3 200 "the set contains something that is no state" a U) ∧ (∃ a, vk_R RX3 203 "no such region" a U) ∧
  (∃ a, vk_R RX3 205 "no net was made since the last change" a U) ∧ va_Nw (.castable exI exI) U ∧ va_Nw (.castable exS exS) U ∧ va_Nw (.castable exA exA) U ∧ NwD U
theorem vk_Rw {k : Nat} {t : String} {s U : State} (hW : s.WarmedH U.vm) (h : ∃ a, vk_R RX3 k t a s) : ∃ a, vk_R RX3 k t a U := by
  obtain ⟨a, h⟩ := h
  exact ⟨a, vk_R.warm hW h⟩
theorem TX.warm {s U : State} (hW : s.WarmedH U.vm) (h : TX s) : TX U := by
  obtain ⟨h1, h2, h3, h4, h5, h6, h7, h8, h9, h10, h11, h12, h13, h14, h15⟩ := h
  exact ⟨vk_Rw hW h1, vk_Rw hW h2, vk_Rw hW h3, vk_Rw hW h4, vk_Rw hW h5, vk_Rw hW h6, vk_Rw hW h7, vk_Rw hW h8, vk_Rw hW h9, h10.warmC hW, h11.warmC hW, h12.warmC hW, h13.warmD hW, h14.warmD hW, h15.warmD hW⟩
def ZX (A : Nat → Prop) (U : State) (H : Heap) : Prop := vx_Zq Bundle.tN "UNASSIGNED_STACK" Bundle.steD A U H ∧ vx_Zq Bundle.tN "SUPPRESSED_SENTINEL" Bundle.listD A U H
def tA (n : Nat) (κ : Nat → Nat) (sz : Nat) : Nat → Prop := fun q => gA n κ q ∨ sz ≤ q
theorem tA_in {n : Nat} {κ : Nat → Nat} {sz : Nat} : ∀ k, k < n → tA n κ sz (κ k) := fun k h => Or.inl ⟨k, h, rfl⟩
def tP (D : va_G) (cI cII : ClassId) (n : Nat) (κ : Nat → Nat) (f : Nat → va_E) (sz : Nat) (U : State) : Prop := U.heap.size = sz ∧ gP D cI cII n κ f U ∧ TX U ∧ ZX (tA n κ sz) U U.heap
theorem tP.blind {av : List Value} {D : va_G} {cI cII : ClassId} {n : Nat} {κ : Nat → Nat} {f : Nat → va_E} {sz : Nat} : FrameBlind (va_Pc av (tP D cI cII n κ f sz)) := fun a U g mk h =>
  ⟨h.1, h.2.1, ⟨h.2.2.1.1, h.2.2.1.2.calling⟩, TX.warm (s := U) (U := U.calling g mk a) (State.WarmedH.refl U) h.2.2.2.1, ⟨vx_Zq.moved (u := U) (U := U.calling g mk a) (Vm.Alike.refl U.vm) h.2.2.2.2.1, vx_Zq.moved (u := U) (U := U.calling g mk a) (Vm.Alike.refl U.vm) h.2.2.2.2.2⟩⟩
/-! pure -/
def bindx {α β : Type} (o : Option ((α ⊕ String) × SX)) (k : α → SX → Option ((β ⊕ String) × SX)) : Option ((β ⊕ String) × SX) := o.bind fun q => match q.1 with
  | .inl a => k a q.2
  | .inr e => some (.inr e, q.2)
/-- an answer, the world behind it; a throw, the world behind it -/
abbrev TQI (D : va_G) (cI cII : ClassId) (n : Nat) (κ : Nat → Nat) (f : Nat → va_E) (R : Int32 ⊕ String) (A : Nat → Prop) : Array Value → State → Outcome → State → Prop := va_Qi (fun (r' : Int32) (_ : Unit) => R = .inl r') (fun _ t => va_P D vwCl (gw n κ f) t.heap) A
abbrev TQV (D : va_G) (cI cII : ClassId) (n : Nat) (κ : Nat → Nat) (f : Nat → va_E) (R : Unit ⊕ String) (A : Nat → Prop) : Array Value → State → Outcome → State → Prop := va_Qv (fun (_ : Unit) => R = .inl ()) (fun _ t => va_P D vwCl (gw n κ f) t.heap) A
abbrev TXC {α : Type} (D : va_G) (n : Nat) (κ : Nat → Nat) (f : Nat → va_E) (R : α ⊕ String) (A : Nat → Prop) : String → State → State → Prop := vx_X (fun (_ : Unit) => True) (fun E _ t => R = .inr E ∧ va_P D vwCl (gw n κ f) t.heap) A
section TR
variable {p : Program} {l : Launch} {e : Env} {R : Room} {s : State} {m : MethodId} {args : Array Value} {below : List Frame} {meth : Method} {c : Code} {H : Heap} {locs : List Loc} {cells slots : Nat} {Q : State → Prop}
variable {cc : ByteArray} {pc : Nat} {ls : Array Slot} {rest : List Value} {D : va_G} {A : Nat → Prop} {n : Nat} {κ : Nat → Nat} {f f' : Nat → va_E} {cI cII : ClassId} {nL : Nat} {Ts : List Cond} {own : String} {mc ms : Nat}
variable {XC : String → State → State → Prop}
theorem t_iret {v : Int32} {Rr : Int32 ⊕ String} (S : CallFix p m c cc nL s args Ts own) (hr : meth.sig.returnType = some .int) (hlk : meth.locks = false) (hP : va_P D vwCl (gw n κ f) H) (hS : va_S A s.heap H locs) (hv : Rr = .inl v) (hc : cells ≤ mc) (hs : slots ≤ ms) (hdg : decode cc pc = .ok (.ireturn, 1)) :
    W p l e R s m args below meth c H locs cells slots (vx_MQ below (TQI D cI cII n κ f Rr A) XC args s mc ms A) (F0 m pc ls [.int v]) :=
  W.widen hc hs (vx_ret (W.iret (v := v) S.1 S.2.1 hr (fun t ht hW => ⟨⟨v, (), rfl, hv, (show va_P D vwCl (gw n κ f) t.heap by rw [ht]; exact hP)⟩, hS.F ht⟩) hS.2.2 hdg hlk))
theorem t_zret {v w : Int32} {Rr : Int32 ⊕ String} (S : CallFix p m c cc nL s args Ts own) (hr : meth.sig.returnType = some .boolean) (hlk : meth.locks = false) (hP : va_P D vwCl (gw n κ f) H) (hS : va_S A s.heap H locs) (hz : zr v = some w) (hv : Rr = .inl w) (hc : cells ≤ mc) (hs : slots ≤ ms) (hdg : decode cc pc = .ok (.ireturn, 1)) :
    W p l e R s m args below meth c H locs cells slots (vx_MQ below (TQI D cI cII n κ f Rr A) XC args s mc ms A) (F0 m pc ls [.int v]) :=
  W.widen hc hs (vx_ret (W.zret (v := v) (ty := .boolean) S.1 S.2.1 hr (zr_w hz).2 (fun t ht hW => ⟨⟨v, (), rfl, by rw [hv, (zr_w hz).1], (show va_P D vwCl (gw n κ f) t.heap by rw [ht]; exact hP)⟩, hS.F ht⟩) hS.2.2 hdg hlk))
theorem t_vret {Rr : Unit ⊕ String} (S : CallFix p m c cc nL s args Ts own) (hr : meth.sig.returnType = none) (hlk : meth.locks = false) (hP : va_P D vwCl (gw n κ f) H) (hS : va_S A s.heap H locs) (hv : Rr = .inl ()) (hc : cells ≤ mc) (hs : slots ≤ ms) (hdg : decode cc pc = .ok (.return_, 1)) :
    W p l e R s m args below meth c H locs cells slots (vx_MQ below (TQV D cI cII n κ f Rr A) XC args s mc ms A) (F0 m pc ls []) :=
  W.widen hc hs (vx_ret (W.vret S.1 S.2.1 hr (fun t ht hW => ⟨⟨(), rfl, hv, (show va_P D vwCl (gw n κ f) t.heap by rw [ht]; exact hP)⟩, hS.F ht⟩) hS.2.2 hdg hlk))
theorem t_F {t : State} (hS : va_S A s.heap H locs) (h1 : H.size ≤ t.heap.size) (h2 : ∀ q : Nat, q < H.size → t.heap[q]? = H[q]?) : va_F A s t :=
  ⟨Nat.le_trans hS.1 h1, fun q hq hA => (h2 q (Nat.lt_of_lt_of_le hq hS.1)).trans (hS.2.1 q hq hA)⟩
theorem t_throw {α : Type} {Rr : α ⊕ String} {Qc : Array Value → State → Outcome → State → Prop} {cls text : String} {ik is ic : Nat} (S : CallFix p m c cc nL s args Ts RX3) (hst : l.stackTraces = false) (hlk : meth.locks = false) (hP : va_P D vwCl (gw n κ f) H) (hS : va_S A s.heap H locs) (hZ : ZX A s s.heap) (htab : ∀ x ∈ c.exceptionTable.toList, False)
    (hstr : ∃ a, vk_R RX3 is text a s) (hfit : Bundle.fit cls = true) (hk : Cond.classLink RX3 ik cls ∈ Ts) (hini : Cond.initialized cls ∈ Ts) (hg1 : ∀ w ∈ (vx_atS RX3 ic cls exN).filter goodWord, w ∈ Ts) (hng : (vx_atS RX3 ic cls exN).filter (fun w => !goodWord w) = [.declares exD1, .declares exD2, .declares exD3, .castable cls cls]) (hca : va_Nw (.castable cls cls) s) (hNw : NwD s)
    (hgood : ∀ w ∈ Cond.classLink RX3 ik cls :: Cond.initialized cls :: vx_atS RX3 ic cls exN, vx_ot w = true) (hsize : ls.size = nL) (hRr : Rr = .inr cls)
    (d0 : decode cc pc = .ok (.new ik, 3)) (d3 : decode cc (pc + 3) = .ok (.dup, 1)) (d4 : decode cc (pc + 4) = .ok (.ldc is, 2)) (d6 : decode cc (pc + 6) = .ok (.invokespecial ic, 3)) (d9 : decode cc (pc + 9) = .ok (.athrow, 1))
    (hRf : 5 < R.frames) (hRl : 82 ≤ R.locals) (hRc : cells + 1 ≤ R.cells) (hRs : slots + 6 ≤ R.slots) (hc : cells + 1 ≤ mc) (hs : slots + 6 ≤ ms) :
    W p l e R s m args below meth c H locs cells slots (vx_MQ below Qc (TXC D n κ f Rr A) args s mc ms A) (F0 m pc ls []) := by
  obtain ⟨sa, hstr⟩ := hstr
  refine vx_throwS (A := A) (names := exN) (cls := cls) (text := text) (ik := ik) (is := is) (ic := ic) (sa := sa) S.1 S.2.1 hst S.2.2.2.1 hfit (by decide +kernel) (S.2.2.2.2 _ hk) (S.2.2.2.2 _ hini) hstr
    (vx_hat (B := [.declares exD1, .declares exD2, .declares exD3, .castable cls cls]) (fun w hw => S.2.2.2.2 w (hg1 w hw)) (fun w hw => by rw [hng] at hw; exact hw) (vx_c (va_Nw.use rfl hNw.1) (vx_c (va_Nw.use rfl hNw.2.1) (vx_c (va_Nw.use rfl hNw.2.2) (vx_c (va_Nw.use rfl hca) vx_n))))) hgood hZ.1 hZ.2 hS (hsize.trans S.2.2.1.symm) d0 d3 d4 d6 d9 (fun x hx => (htab x hx).elim)
    hRf (by simpa using hRl) hRc hRs hlk ?_ hS.2.2 hc hs
  intro t hvm h1 h2
  exact ⟨(), trivial, ⟨hRr, fun k q hk => (hP k q hk).kept (h2 _ (hP k q hk).lt)⟩, t_F hS h1 h2⟩
/-- what a callee that may throw asks -/
theorem t_pre {As : List Value} {n0 : Nat} (hK : KX D cI cII s) (hX : TX s) (hZ : ZX A s s.heap) (hP : va_P D vwCl (gw n κ f) H) (hS : va_S A s.heap H locs) (hn0 : n0 ≤ n) (hA : ∀ k, k < n → A (κ k)) (hA2 : ∀ q, s.heap.size ≤ q → A q) : ∀ U : State, U.heap = H → s.WarmedH U.vm → va_Pc As (tP D cI cII n0 κ f H.size) As.toArray U := by
  intro U hU hW
  have hAA : ∀ q, tA n0 κ H.size q → A q := fun q h => h.elim (fun ⟨k, hk, e⟩ => e ▸ hA k (by omega)) (fun h => hA2 q (Nat.le_trans hS.1 h))
  refine ⟨rfl, by rw [hU], ⟨?_, KX.warm hW hK⟩, TX.warm hW hX, ?_, ?_⟩
  · rw [hU]
    intro k x hk
    obtain ⟨h1, rfl⟩ := gw_of hk
    exact hP k _ (gw_at (by omega))
  · rw [hU]; exact (vx_Zq.moved hW.alike (hZ.1.kept hS.2.1)).narrow hAA
  · rw [hU]; exact (vx_Zq.moved hW.alike (hZ.2.kept hS.2.1)).narrow hAA
theorem t_preV {As : List Value} {n0 q ci N : Nat} {C : String} {T : u_T} {fs : List Value} (hK : KX D cI cII s) (hX : TX s) (hZ : ZX A s s.heap) (hP : va_P D vwCl (gw n κ f) H) (hS : va_S A s.heap H locs) (hn0 : n0 ≤ n) (hA : ∀ k, k < n → A (κ k)) (hA2 : ∀ q, s.heap.size ≤ q → A q) (hq : q < n) (hfq : f q = .inr (ci, fs)) (hc : vwCl[ci]? = some (C, T, N)) :
    PreV s H C (κ q) (va_Pc (.ref (κ q) :: As) (tP D cI cII n0 κ f H.size)) As :=
  ⟨tP.blind, va_recv hK.1 hP hc (q0 := q) (by rw [gw_at hq, hfq]), t_pre (As := .ref (κ q) :: As) hK hX hZ hP hS hn0 hA hA2⟩
theorem t_preS {As : List Value} {n0 : Nat} (hK : KX D cI cII s) (hX : TX s) (hZ : ZX A s s.heap) (hP : va_P D vwCl (gw n κ f) H) (hS : va_S A s.heap H locs) (hn0 : n0 ≤ n) (hA : ∀ k, k < n → A (κ k)) (hA2 : ∀ q, s.heap.size ≤ q → A q) :
    PreS s H (va_Pc As (tP D cI cII n0 κ f H.size)) As := ⟨tP.blind, t_pre hK hX hZ hP hS hn0 hA hA2⟩
theorem t_callv {β : Type} {Rr : β ⊕ String} {σ' : SX} {n0 : Nat} {F : SX → Nat → va_E} {o : Option ((Unit ⊕ String) × SX)} {k : Unit → SX → Option ((β ⊕ String) × SX)} {Qc : Array Value → State → Outcome → State → Prop} {ar : Array Value} {st0 : List Value} {mc0 ms0 : Nat}
    (hbx : bindx o k = some (Rr, σ')) (hlk : meth.locks = false) (htab : ∀ x ∈ c.exceptionTable.toList, False)
    (hr : ∀ (R1 : Unit ⊕ String) (σ1 : SX), o = some (R1, σ1) → vx_Run p l e R s m args below meth c H locs cells slots mc0 ms0 (F0 m pc ls st0) rest (TQV D cI cII n0 κ (F σ1) R1 (tA n0 κ H.size) ar) (TXC D n0 κ (F σ1) R1 (tA n0 κ H.size)) (tA n0 κ H.size))
    (hn0 : n0 ≤ n) (hκ : Inj n κ) (hA : ∀ k, k < n → A (κ k)) (hA2 : ∀ q, s.heap.size ≤ q → A q) (hP : va_P D vwCl (gw n κ f) H) (hS : va_S A s.heap H locs) (hff : ∀ σ1 j, n0 ≤ j → j < n → F σ1 j = f j) (hc : cells + mc0 ≤ mc) (hs : slots + ms0 ≤ ms)
    (kk : ∀ (σ1 : SX) (H : Heap) (locs : List Loc), k () σ1 = some (Rr, σ') → va_P D vwCl (gw n κ (F σ1)) H → va_S A s.heap H locs → W p l e R s m args below meth c H locs (cells + mc0) (slots + ms0) (vx_MQ below Qc (TXC D n κ (F σ') Rr A) args s mc ms A) (F0 m (pc + 3) ls rest)) :
    W p l e R s m args below meth c H locs cells slots (vx_MQ below Qc (TXC D n κ (F σ') Rr A) args s mc ms A) (F0 m pc ls st0) := by
  have hAA : ∀ q, tA n0 κ H.size q → A q := fun q h => h.elim (fun ⟨k, hk, e⟩ => e ▸ hA k (by omega)) (fun h => hA2 q (Nat.le_trans hS.1 h))
  obtain ⟨⟨R1, σ1⟩, ho, hk⟩ := Option.bind_eq_some_iff.mp hbx
  have bh : ∀ H1 : Heap, va_P D vwCl (gw n0 κ (F σ1)) H1 → (∀ q : Nat, q < H.size → ¬ tA n0 κ H.size q → H1[q]? = H[q]?) → va_P D vwCl (gw n κ (F σ1)) H1 := fun H1 h1 h2 => by
    intro k q hq
    obtain ⟨g1, rfl⟩ := gw_of hq
    by_cases g2 : k < n0
    · exact h1 k _ (gw_at g2)
    · have g3 := hP k _ (gw_at g1)
      have g4 : va_at D vwCl (κ k, f k) H1 := g3.kept (h2 _ g3.lt (fun z => z.elim (fun ⟨j, hj, e⟩ => by
        have := hκ j k (by omega) g1 e
        omega) (fun z => absurd g3.lt (Nat.not_lt.mpr z))))
      rw [hff σ1 k (by omega) g1]
      exact g4
  refine vx_callv (hr R1 σ1 ho) hS (fun q _ h => hAA q h) hAA (fun q _ h => hAA q h) (fun E ce q9 u t H1 locs1 ht hvm hp hB hz hk1 hS1 hce hcv hcl => ?_) (fun u t H1 locs1 ht hvm hp hB hz hk1 hS1 => ?_)
  · obtain ⟨hR1, hB⟩ := hB
    subst hR1
    obtain ⟨e1, e2⟩ := Prod.mk.inj (Option.some.inj hk)
    subst e2
    refine vx_out (fun x hx => (htab x hx).elim) hlk hce hcv hcl (fun t2 ht2 _ => ⟨(), trivial, ⟨e1.symm, ?_⟩, hS1.F ht2⟩) hS1.2.2 hc hs
    rw [ht2]
    exact bh _ (by rw [← ht]; exact hB) hk1
  · subst hp
    exact kk σ1 H1 locs1 hk (bh _ (by rw [← ht]; exact hB) hk1) hS1
end TR
theorem t_enter {l : Launch} {y : MethodName} {ws ws' : List Cond} {rm : Room} {cc : ByteArray} {maxL : Nat} {ret : Option FieldType} {av : List Value} {Bp : State → Prop} {Qc : Array Value → State → Outcome → State → Prop} {XC : String → State → State → Prop} {mc ms : Nat} {free : Addr → Prop}
    (hy : plainName y.cls = true) (hw : ws = Cond.code y cc maxL ret :: ws') (hle : (lg_sl av).length ≤ maxL)
    (body : ∀ (p : Program) (e : Env) (s : State) (m : MethodId) (args : Array Value) (below : List Frame) (meth : Method) (c : Code) (ls : Array Slot),
      CallFix p m c cc maxL s args ws y.cls → meth.sig.returnType = ret → meth.locks = false → (∀ x ∈ c.exceptionTable.toList, False) → Bp s → lv_has ls maxL (lv_args 0 av) →
      W p l e rm s m args below meth c s.heap [] 0 0 (vx_MQ below Qc XC args s mc ms free) (F0 m 0 ls [])) : vx_Met l y ws rm (va_Pc av Bp) Qc XC mc ms free := by
  refine vx_ofW (cc := cc) (maxL := maxL) (ret := ret) hy hw ?_
  intro p e s m args below meth c s₁ B hml ht hv
  obtain ⟨rfl, hB⟩ := hv
  have hl := lv_entry av (n := maxL) hle
  rw [lg_entry_eq]
  exact body p e s m _ below meth c _ ⟨B.exec, B.bytes, hml, findClass_of_methodNamed B.named, atoms_spec (ws := ws) B.pre⟩ B.returns B.notSynchronized ht hB hl
