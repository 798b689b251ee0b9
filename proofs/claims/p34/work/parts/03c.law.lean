/-! 03c: the law: its array is the cell 31; its script lies apart -/
def nz (y : Int32) : Option Unit := if y = 0 then none else some ()
theorem nz_w {y : Int32} {u : Unit} (h : nz y = some u) : ¬ y = 0 := fun q => by
  unfold nz at h
  rw [if_pos q] at h
  cases h
def nn (y : Int32) : Option Unit := if y < 0 then none else some ()
theorem nn_w {y : Int32} {u : Unit} (h : nn y = some u) : ¬ y < 0 := fun q => by
  unfold nn at h
  rw [if_pos q] at h
  cases h
/-- what the script has at k, or a number of its own behind its end -/
def celv (L : Nat) (xs : Nat → Int32) (k : Int32) : Int32 := if nI L ≤ k then 790386105 * (k + 3) else xs k.toNatClampNeg
/-- behind a call of the class: its own cells; the law's array as it was -/
def mrg (σ τ : SX) : SX := (τ.1, fun a => if a = 31 then σ.2 31 else τ.2 a)
theorem xC_congr {cI cII : ClassId} {κ : Nat → Nat} {σ τ : SX} {k : Nat} (h1 : σ.1 = τ.1) (h2 : σ.2 k = τ.2 k) : xC cI cII κ σ k = xC cI cII κ τ k := by
  unfold xC
  split <;> first | rfl | rw [h1] | rw [h2]
theorem mrg_lo {cI cII : ClassId} {κ : Nat → Nat} {σ τ : SX} {k : Nat} (h : k < 31) : xC cI cII κ (mrg σ τ) k = xC cI cII κ τ k :=
  xC_congr rfl (if_neg (by omega))
theorem mrg_gP {D : va_G} {cI cII : ClassId} {κ : Nat → Nat} {σ τ : SX} : gP D cI cII 31 κ (xC cI cII κ (mrg σ τ)) = gP D cI cII 31 κ (xC cI cII κ τ) := by
  have e : gw 31 κ (xC cI cII κ (mrg σ τ)) = gw 31 κ (xC cI cII κ τ) := by
    unfold gw
    exact List.map_congr_left fun k hk => by rw [mrg_lo (List.mem_range.mp hk)]
  unfold gP
  rw [e]
theorem mrg_hi {cI cII : ClassId} {κ : Nat → Nat} {σ τ : SX} {j : Nat} (h1 : 31 ≤ j) (h2 : j < 32) : xC cI cII κ (mrg σ τ) j = xC cI cII κ σ j := by
  obtain rfl : j = 31 := by omega
  show (.inl (cI, 72, .inl (if 31 = 31 then σ.2 31 else τ.2 31)) : va_E) = .inl (cI, 72, .inl (σ.2 31))
  rw [if_pos rfl]
/-- what build finds: the class and the law's array, and the script apart -/
def bP (D : va_G) (cI cII : ClassId) (κ : Nat → Nat) (σ : SX) (b L : Nat) (xs : Nat → Int32) (U : State) : Prop := gP D cI cII 32 κ (xC cI cII κ σ) U ∧ va_X b L xs U U.heap ∧ b < U.heap.size
theorem bP.blind {av : List Value} {D : va_G} {cI cII : ClassId} {κ : Nat → Nat} {σ : SX} {b L : Nat} {xs : Nat → Int32} : FrameBlind (va_Pc av (bP D cI cII κ σ b L xs)) := fun a U g mk h =>
  ⟨h.1, ⟨h.2.1.1, h.2.1.2.calling⟩, va_X.moved (u := U) (U := U.calling g mk a) (Vm.Alike.refl U.vm) h.2.2.1, h.2.2.2⟩
theorem b_preS {s : State} {H : Heap} {locs : List Loc} {A : Nat → Prop} {As : List Value} {D : va_G} {cI cII : ClassId} {κ : Nat → Nat} {σ : SX} {b L : Nat} {xs : Nat → Int32} (hK : KX D cI cII s) (hP : va_P D vwCl (gw 32 κ (xC cI cII κ σ)) H) (hsX : va_X b L xs s s.heap) (hbl : b < s.heap.size) (hbA : ¬ A b) (hS : va_S A s.heap H locs) : PreS s H (va_Pc As (bP D cI cII κ σ b L xs)) As :=
  ⟨bP.blind, fun U hU hW => ⟨rfl, ⟨by rw [hU]; exact hP, KX.warm hW hK⟩, by rw [hU]; exact va_X.moved hW.alike (hsX.kept (hS.2.1 b hbl hbA)), by rw [hU]; exact Nat.lt_of_lt_of_le hbl hS.1⟩⟩
/-- what cell finds -/
def cS (b L : Nat) (xs : Nat → Int32) (U : State) : Prop := va_X b L xs U U.heap ∧ b < U.heap.size
theorem cS.blind {av : List Value} {b L : Nat} {xs : Nat → Int32} : FrameBlind (va_Pc av (cS b L xs)) := fun a U g mk h =>
  ⟨h.1, va_X.moved (u := U) (U := U.calling g mk a) (Vm.Alike.refl U.vm) h.2.1, h.2.2⟩
