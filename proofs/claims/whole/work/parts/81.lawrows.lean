/-! 81: the law's calls of the class that may throw: rows -/
theorem t_enterH {l : Launch} {y : MethodName} {ws ws' : List Cond} {rm : Room} {cc : ByteArray} {maxL : Nat} {ret : Option FieldType} {hh : List (Nat × Nat × Nat × Nat)} {av : List Value} {Bp : State → Prop} {Qc : Array Value → State → Outcome → State → Prop} {XC : String → State → State → Prop} {mc ms : Nat} {free : Addr → Prop}
    (hy : plainName y.cls = true) (hw : ws = Cond.codeWith y cc maxL ret hh :: ws') (hle : (lg_sl av).length ≤ maxL)
    (body : ∀ (p : Program) (e : Env) (s : State) (m : MethodId) (args : Array Value) (below : List Frame) (meth : Method) (c : Code) (ls : Array Slot),
      CallFix p m c cc maxL s args ws y.cls → meth.sig.returnType = ret → meth.locks = false → c.exceptionTable.toList = tableOf hh → Bp s → lv_has ls maxL (lv_args 0 av) →
      W p l e rm s m args below meth c s.heap [] 0 0 (vx_MQ below Qc XC args s mc ms free) (F0 m 0 ls [])) : vx_Met l y ws rm (va_Pc av Bp) Qc XC mc ms free := by
  refine vx_ofWH (cc := cc) (maxL := maxL) (ret := ret) (hh := hh) hy hw ?_
  intro p e s m args below meth c s₁ B hml hv
  obtain ⟨rfl, hB⟩ := hv
  have hl := lv_entry av (n := maxL) hle
  rw [lg_entry_eq]
  have ht := atoms_spec (ws := ws) B.pre
  exact body p e s m _ below meth c _ ⟨B.exec, B.bytes, hml, findClass_of_methodNamed B.named, ht⟩ B.returns B.notSynchronized (vx_table (x := y) B (ht _ (by rw [hw]; exact List.mem_cons_self))) hB hl
def lA (κ : Nat → Nat) (o sz : Nat) : Nat → Prop := fun q => tA 31 κ sz q ∨ q = o
/-- no throw of one kind is of another -/
def NC (U : State) : Prop := va_Nc exS exI U ∧ va_Nc exI exA U ∧ va_Nc exI exS U
theorem NC.warm {s U : State} (hW : s.WarmedH U.vm) (h : NC s) : NC U := ⟨h.1.moved hW.alike, h.2.1.moved hW.alike, h.2.2.moved hW.alike⟩
/-- the cell where a wrapper leaves the answer -/
def oc (cJ : ClassId) (o : Nat) (z : Int64) : Nat × va_E := (o, .inl (cJ, 1, .inr (.inl fun _ => z)))
def lP (D : va_G) (cI cII cJ : ClassId) (κ : Nat → Nat) (o : Nat) (σ : SX) (z : Int64) (sz : Nat) (U : State) : Prop := U.heap.size = sz ∧ va_P D vwCl (gw 31 κ (xC cI cII κ σ)) U.heap ∧ va_at D vwCl (oc cJ o z) U.heap ∧ KX D cI cII U ∧ TX U ∧ ZX (lA κ o sz) U U.heap ∧ va_K D vwCl [(cJ, .long)] U ∧ NC U
theorem lP.blind {av : List Value} {D : va_G} {cI cII cJ : ClassId} {κ : Nat → Nat} {o : Nat} {σ : SX} {z : Int64} {sz : Nat} : FrameBlind (va_Pc av (lP D cI cII cJ κ o σ z sz)) := fun a U g mk h =>
  ⟨h.1, h.2.1, h.2.2.1, h.2.2.2.1, h.2.2.2.2.1.calling, TX.warm (s := U) (U := U.calling g mk a) (State.WarmedH.refl U) h.2.2.2.2.2.1, ⟨vx_Zq.moved (u := U) (U := U.calling g mk a) (Vm.Alike.refl U.vm) h.2.2.2.2.2.2.1.1, vx_Zq.moved (u := U) (U := U.calling g mk a) (Vm.Alike.refl U.vm) h.2.2.2.2.2.2.1.2⟩, va_K.moved (u := U) (U := U.calling g mk a) (Vm.Alike.refl U.vm) h.2.2.2.2.2.2.2.1, NC.warm (s := U) (U := U.calling g mk a) (State.WarmedH.refl U) h.2.2.2.2.2.2.2.2⟩
abbrev lQ (D : va_G) (cI cII cJ : ClassId) (κ : Nat → Nat) (o : Nat) (σ' : SX) (z' : Int64) (kk : Int32) (sz : Nat) : Array Value → State → Outcome → State → Prop := va_Qi (fun (r' : Int32) (_ : Unit) => r' = kk) (fun _ t => va_P D vwCl (gw 31 κ (xC cI cII κ σ')) t.heap ∧ va_at D vwCl (oc cJ o z') t.heap) (lA κ o sz)
abbrev lX (κ : Nat → Nat) (o sz : Nat) : String → State → State → Prop := vx_X (fun (_ : Unit) => False) (fun _ _ _ => True) (lA κ o sz)
/-- what a wrapper answers -/
def WO1 (c1 : String) (R : Int32 ⊕ String) (z : Int64) (kk : Int32) (z' : Int64) : Prop := (∃ v, R = .inl v ∧ kk = 0 ∧ z' = v.toInt64) ∨ (R = .inr c1 ∧ kk = 1 ∧ z' = z)
def WO2 (c1 c2 : String) (R : Int32 ⊕ String) (z : Int64) (kk : Int32) (z' : Int64) : Prop := (∃ v, R = .inl v ∧ kk = 0 ∧ z' = v.toInt64) ∨ (R = .inr c1 ∧ kk = 1 ∧ z' = z) ∨ (R = .inr c2 ∧ kk = 2 ∧ z' = z)
def WOb (c1 : String) (R : Int32 ⊕ String) (z : Int64) (kk : Int32) (z' : Int64) : Prop := (∃ v, R = .inl v ∧ kk = 0 ∧ z' = if v = 0 then 0 else 1) ∨ (R = .inr c1 ∧ kk = 1 ∧ z' = z)
section LR
variable {p : Program} {l : Launch} {e : Env} {R : Room} {s : State} {m : MethodId} {args : Array Value} {below : List Frame} {meth : Method} {c : Code} {H : Heap} {locs : List Loc} {cells slots : Nat} {Q : State → Prop}
variable {cc : ByteArray} {pc : Nat} {ls : Array Slot} {rest : List Value} {D : va_G} {A : Nat → Prop} {n : Nat} {κ : Nat → Nat} {f f' : Nat → va_E} {cI cII cJ : ClassId} {nL : Nat} {Ts : List Cond} {own : String} {mc ms o : Nat} {z : Int64}
theorem w_calli {Rr : Int32 ⊕ String} {st0 : List Value} {mc0 ms0 : Nat} {ar : Array Value}
    (hr : vx_Run p l e R s m args below meth c H locs cells slots mc0 ms0 (F0 m pc ls st0) rest (TQI D cI cII 31 κ f' Rr (tA 31 κ H.size) ar) (TXC D 31 κ f' Rr (tA 31 κ H.size)) (tA 31 κ H.size))
    (hA : ∀ k, k < 31 → A (κ k)) (hA2 : ∀ q, s.heap.size ≤ q → A q) (hne : ∀ k, k < 31 → κ k ≠ o) (hO : va_at D vwCl (oc cJ o z) H) (hS : va_S A s.heap H locs)
    (kx : ∀ (E : String) (ce : Cell) (q9 : Addr) (H1 : Heap) (locs1 : List Loc), Rr = .inr E → va_P D vwCl (gw 31 κ f') H1 → va_at D vwCl (oc cJ o z) H1 → va_S A s.heap H1 locs1 → H1[q9]? = some ce → ce.vm = .none → s.vm.findClass E = some ce.cls → vx_W p l e R s m args below meth c H1 locs1 (cells + mc0) (slots + ms0) Q (F0 m pc ls rest) q9)
    (kk : ∀ (v : Int32) (H1 : Heap) (locs1 : List Loc), Rr = .inl v → va_P D vwCl (gw 31 κ f') H1 → va_at D vwCl (oc cJ o z) H1 → va_S A s.heap H1 locs1 → W p l e R s m args below meth c H1 locs1 (cells + mc0) (slots + ms0) Q (F0 m (pc + 3) ls (.int v :: rest))) :
    W p l e R s m args below meth c H locs cells slots Q (F0 m pc ls st0) := by
  have hAA : ∀ q, tA 31 κ H.size q → A q := fun q h => h.elim (fun ⟨k, hk, e⟩ => e ▸ hA k hk) (fun h => hA2 q (Nat.le_trans hS.1 h))
  have no : ¬ tA 31 κ H.size o := fun h => h.elim (fun ⟨k, hk, e⟩ => hne k hk e) (fun h => absurd hO.lt (Nat.not_lt.mpr h))
  refine vx_calli hr hS (fun q _ h => hAA q h) hAA (fun q _ h => hAA q h) (fun E ce q9 u t H1 locs1 ht hvm hp hB hz hk1 hS1 hce hcv hcl => ?_) (fun v u t H1 locs1 ht hvm hp hB hz hk1 hS1 => ?_)
  · exact kx E ce q9 H1 locs1 hB.1 (by rw [← ht]; exact hB.2) (hO.kept (hk1 _ hO.lt no)) hS1 hce hcv hcl
  · exact kk v H1 locs1 hp (by rw [← ht]; exact hB) (hO.kept (hk1 _ hO.lt no)) hS1
theorem oc_cell (cJ : ClassId) (z x : Int64) : vp_cell cJ (1, .inr (.inl (vp_updL (fun _ => z) (0 : Int32).toNatClampNeg x))) = vp_cell cJ (1, .inr (.inl fun _ => x)) := by
  rw [vp_cell_l, vp_cell_l]
  unfold arrV
  refine congrArg (fun w => ({ cls := cJ, slots := w, vm := .none } : Cell)) (congrArg Array.ofFn (funext fun j => ?_))
  have hj : j.val = 0 := by have := j.isLt; omega
  show Value.long (vp_updL (fun _ => z) (0 : Int32).toNatClampNeg x j.val) = Value.long x
  rw [hj]; rfl
theorem w_last {x : Int64} (S : CallFix p m c cc nL s args Ts own) (hKJ : va_K D vwCl [(cJ, .long)] s) (hκ : Inj 31 κ) (hA : ∀ k, k < 31 → A (κ k)) (hAo : A o) (hne : ∀ k, k < 31 → κ k ≠ o) (hP : va_P D vwCl (gw 31 κ f) H) (hO : va_at D vwCl (oc cJ o z) H) (hS : va_S A s.heap H locs) (hdg : decode cc pc = .ok (.lastore, 1))
    (kk : ∀ (H1 : Heap) (locs1 : List Loc), va_P D vwCl (gw 31 κ f) H1 → va_at D vwCl (oc cJ o x) H1 → va_S A s.heap H1 locs1 → W p l e R s m args below meth c H1 locs1 cells slots Q (F0 m (pc + 1) ls rest)) :
    W p l e R s m args below meth c H locs cells slots Q (F0 m pc ls (.long x :: .int 0 :: .ref o :: rest)) := by
  have k31 : ∀ k, k < 31 → upn κ 31 o k = κ k := fun k hk => if_neg (by omega)
  have f31 : ∀ {g : Nat → va_E} {y : va_E} k, k < 31 → upn g 31 y k = g k := fun k hk => if_neg (by omega)
  have hP2 : va_P D vwCl (gw 32 (upn κ 31 o) (upn f 31 (.inl (cJ, 1, .inr (.inl fun _ => z))))) H := pw_to fun k hk => by
    by_cases c1 : k < 31
    · rw [k31 k c1, f31 k c1]; exact pw_of hP c1
    · rw [show k = 31 by omega]; exact hO
  have hD2 : va_D A (gw 32 (upn κ 31 o) (upn f 31 (.inl (cJ, 1, .inr (.inl fun _ => z))))) := gw_D (fun i j hi hj e => by
    by_cases c1 : i < 31
    · rw [k31 i c1] at e
      by_cases c2 : j < 31
      · rw [k31 j c2] at e; exact hκ i j c1 c2 e
      · rw [show j = 31 by omega] at e; exact absurd e (hne i c1)
    · by_cases c2 : j < 31
      · rw [k31 j c2, show i = 31 by omega] at e; exact absurd e.symm (hne j c2)
      · omega) (fun k hk => by
    by_cases c1 : k < 31
    · rw [k31 k c1]; exact hA k c1
    · rw [show k = 31 by omega]; exact hAo)
  refine va_last (a := o) S.1 S.2.1 hKJ hP2 hD2 hS 31 0 (cA := cJ) (n := 1) (f := fun _ => z) (i := 0) (x := x) (by rw [gw_at (by decide)]; rfl) rfl (by unfold vp_in; decide) hdg (fun H1 locs1 hP1 _ hS1 => kk H1 locs1 ?_ ?_ hS1)
  · refine pw_to fun k hk => ?_
    have := hP1 k (upn κ 31 o k, upn f 31 (.inl (cJ, 1, .inr (.inl fun _ => z))) k) (by rw [List.getElem?_set_ne (by omega), gw_at (by omega)])
    rw [k31 k hk, f31 k hk] at this
    exact this
  · have := hP1 31 _ (by rw [List.getElem?_set_self (by simp [gw])])
    show H1[o]? = some (vp_cell cJ (1, .inr (.inl fun _ => x)))
    rw [← oc_cell cJ z x]
    exact this
theorem w_iret {v kk : Int32} {z' : Int64} {σ' : SX} {sz : Nat} {XC : String → State → State → Prop} (S : CallFix p m c cc nL s args Ts own) (hr : meth.sig.returnType = some .int) (hlk : meth.locks = false) (hP : va_P D vwCl (gw 31 κ (xC cI cII κ σ')) H) (hO : va_at D vwCl (oc cJ o z') H) (hS : va_S (lA κ o sz) s.heap H locs) (hv : v = kk) (hc : cells ≤ mc) (hs : slots ≤ ms) (hdg : decode cc pc = .ok (.ireturn, 1)) :
    W p l e R s m args below meth c H locs cells slots (vx_MQ below (lQ D cI cII cJ κ o σ' z' kk sz) XC args s mc ms (lA κ o sz)) (F0 m pc ls [.int v]) :=
  W.widen hc hs (vx_ret (W.iret (v := v) S.1 S.2.1 hr (fun t ht hW => ⟨⟨v, (), rfl, hv, (show va_P D vwCl (gw 31 κ (xC cI cII κ σ')) t.heap ∧ va_at D vwCl (oc cJ o z') t.heap by rw [ht]; exact ⟨hP, hO⟩)⟩, hS.F ht⟩) hS.2.2 hdg hlk))
end LR
