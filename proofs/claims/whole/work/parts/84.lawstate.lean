/-! 84: what holds while the law runs -/
def AL (s : State) : Nat → Prop := fun q => s.heap.size ≤ q
def LawC (p : Program) (l : Launch) (s : State) (m : MethodId) (args : Array Value) (c : Code) (D : va_G) (cI cII cJ : ClassId) (κ κm : Nat → Nat) (o b L : Nat) (xs : Nat → Int32) : Prop :=
  CallFix p m c cL_law 9 s args wsL_law RL ∧ l.stackTraces = false ∧ KX D cI cII s ∧ TX s ∧ ZX (AL s) s s.heap ∧ va_K D vwCl [(cJ, .long)] s ∧ NC s ∧ Inj 31 κ ∧ Inj 5 κm ∧ (∀ k, k < 31 → AL s (κ k)) ∧ (∀ k, k < 5 → AL s (κm k)) ∧ AL s o ∧
  (∀ i, i < 31 → ∀ j, j < 5 → κ i ≠ κm j) ∧ (∀ k, k < 31 → κ k ≠ o) ∧ (∀ k, k < 5 → κm k ≠ o) ∧ va_X b L xs s s.heap ∧ b < s.heap.size
def LSt (D : va_G) (cI cII cJ : ClassId) (κ κm : Nat → Nat) (o : Nat) (σ τ : SX) (z : Int64) (H : Heap) : Prop := va_P D vwCl (gw 31 κ (xC cI cII κ σ)) H ∧ va_P D vwCl (gw 5 κm (mC cI cII κm τ)) H ∧ va_at D vwCl (oc cJ o z) H
theorem gw_keep {D : va_G} {n : Nat} {κ : Nat → Nat} {f : Nat → va_E} {H H1 : Heap} {Fr : Nat → Prop} (h : va_P D vwCl (gw n κ f) H) (hF : ∀ k, k < n → ¬ Fr (κ k)) (hk : ∀ q : Nat, q < H.size → ¬ Fr q → H1[q]? = H[q]?) : va_P D vwCl (gw n κ f) H1 :=
  pw_to fun k hk1 => (pw_of h hk1).kept (hk _ (pw_of h hk1).lt (hF k hk1))
section LW
variable {p : Program} {l : Launch} {e : Env} {R : Room} {s : State} {m : MethodId} {args : Array Value} {below : List Frame} {meth : Method} {c : Code} {H : Heap} {locs : List Loc} {cells slots : Nat} {Q : State → Prop}
variable {pc : Nat} {ls : Array Slot} {rest st0 : List Value} {D : va_G} {κ κm : Nat → Nat} {cI cII cJ : ClassId} {o b L : Nat} {xs : Nat → Int32} {σ τ σ' τ' : SX} {z z' : Int64} {ar : Array Value}
theorem r_wrap {kk : Int32} {mc0 ms0 : Nat} (C : LawC p l s m args c D cI cII cJ κ κm o b L xs) (hL : LSt D cI cII cJ κ κm o σ τ z H) (hS : va_S (AL s) s.heap H locs)
    (hr : vx_Run p l e R s m args below meth c H locs cells slots mc0 ms0 (F0 m pc ls st0) rest (lQ D cI cII cJ κ o σ' z' kk H.size ar) (lX κ o H.size) (lA κ o H.size))
    (k : ∀ (H : Heap) (locs : List Loc), LSt D cI cII cJ κ κm o σ' τ z' H → va_S (AL s) s.heap H locs → W p l e R s m args below meth c H locs (cells + mc0) (slots + ms0) Q (F0 m (pc + 3) ls (.int kk :: rest))) :
    W p l e R s m args below meth c H locs cells slots Q (F0 m pc ls st0) := by
  obtain ⟨-, -, -, -, -, -, -, -, -, hA, hAm, hAo, hd, ho, hmo, -, -⟩ := C
  have hAA : ∀ q, lA κ o H.size q → AL s q := fun q h => h.elim (fun h => h.elim (fun ⟨k, hk, e⟩ => e ▸ hA k hk) (fun h => Nat.le_trans hS.1 h)) (fun h => h ▸ hAo)
  refine vx_calli hr hS (fun q _ h => hAA q h) hAA (fun q _ h => hAA q h) (fun E ce q9 u t H1 locs1 ht hvm hp hB hz hk1 hS1 hce hcv hcl => hp.elim) (fun v u t H1 locs1 ht hvm hp hB hz hk1 hS1 => ?_)
  subst hp
  refine k H1 locs1 ⟨by rw [← ht]; exact hB.1, gw_keep hL.2.1 (fun k hk h => ?_) hk1, by rw [← ht]; exact hB.2⟩ hS1
  rcases h with (⟨i, hi, e⟩ | h) | h
  · exact hd i hi k hk e
  · exact absurd (pw_of hL.2.1 hk).lt (Nat.not_lt.mpr h)
  · exact hmo k hk h
theorem r_preW {As : List Value} (C : LawC p l s m args c D cI cII cJ κ κm o b L xs) (hL : LSt D cI cII cJ κ κm o σ τ z H) (hS : va_S (AL s) s.heap H locs) : PreS s H (va_Pc As (lP D cI cII cJ κ o σ z H.size)) As := by
  obtain ⟨-, -, hK, hX, hZ, hJ, hN, -, -, hA, hAm, hAo, hd, ho, hmo, -, -⟩ := C
  have hAA : ∀ q, lA κ o H.size q → AL s q := fun q h => h.elim (fun h => h.elim (fun ⟨k, hk, e⟩ => e ▸ hA k hk) (fun h => Nat.le_trans hS.1 h)) (fun h => h ▸ hAo)
  refine ⟨lP.blind, fun U hU hW => ⟨rfl, by rw [hU], by rw [hU]; exact hL.1, by rw [hU]; exact hL.2.2, KX.warm hW hK, TX.warm hW hX, ⟨?_, ?_⟩, va_K.moved hW.alike hJ, NC.warm hW hN⟩⟩
  · rw [hU]; exact (vx_Zq.moved hW.alike (hZ.1.kept hS.2.1)).narrow hAA
  · rw [hU]; exact (vx_Zq.moved hW.alike (hZ.2.kept hS.2.1)).narrow hAA
/-- behind a call of the reference -/
theorem m_after {Fr : Nat → Prop} {H1 : Heap} (C : LawC p l s m args c D cI cII cJ κ κm o b L xs) (hL : LSt D cI cII cJ κ κm o σ τ z H) (hM : va_P D vwCl (gw 5 κm (mC cI cII κm τ')) H1) (hF : ∀ q, Fr q → (∃ k, k < 5 ∧ κm k = q) ∨ H.size ≤ q) (hk : ∀ q : Nat, q < H.size → ¬ Fr q → H1[q]? = H[q]?) : LSt D cI cII cJ κ κm o σ τ' z H1 := by
  obtain ⟨-, -, -, -, -, -, -, -, -, hA, hAm, hAo, hd, ho, hmo, -, -⟩ := C
  refine ⟨gw_keep hL.1 (fun k hk1 h => ?_) hk, hM, hL.2.2.kept (hk _ hL.2.2.lt (fun h => ?_))⟩
  · rcases hF _ h with ⟨j, hj, e⟩ | h
    · exact hd k hk1 j hj e.symm
    · exact absurd (pw_of hL.1 hk1).lt (Nat.not_lt.mpr h)
  · rcases hF _ h with ⟨j, hj, e⟩ | h
    · exact hmo j hj e
    · exact absurd hL.2.2.lt (Nat.not_lt.mpr h)
theorem c_after {Fr : Nat → Prop} {H1 : Heap} (C : LawC p l s m args c D cI cII cJ κ κm o b L xs) (hL : LSt D cI cII cJ κ κm o σ τ z H) (hP : va_P D vwCl (gw 31 κ (xC cI cII κ σ')) H1) (hF : ∀ q, Fr q → (∃ k, k < 31 ∧ κ k = q) ∨ H.size ≤ q) (hk : ∀ q : Nat, q < H.size → ¬ Fr q → H1[q]? = H[q]?) : LSt D cI cII cJ κ κm o σ' τ z H1 := by
  obtain ⟨-, -, -, -, -, -, -, -, -, hA, hAm, hAo, hd, ho, hmo, -, -⟩ := C
  refine ⟨hP, gw_keep hL.2.1 (fun k hk1 h => ?_) hk, hL.2.2.kept (hk _ hL.2.2.lt (fun h => ?_))⟩
  · rcases hF _ h with ⟨j, hj, e⟩ | h
    · exact hd j hj k hk1 e
    · exact absurd (pw_of hL.2.1 hk1).lt (Nat.not_lt.mpr h)
  · rcases hF _ h with ⟨j, hj, e⟩ | h
    · exact ho j hj e
    · exact absurd hL.2.2.lt (Nat.not_lt.mpr h)
theorem r_modi {r : Int32} (C : LawC p l s m args c D cI cII cJ κ κm o b L xs) (hL : LSt D cI cII cJ κ κm o σ τ z H) (hS : va_S (AL s) s.heap H locs)
    (hr : va_Run p l e R s m args below meth c H locs cells slots 0 0 (F0 m pc ls st0) rest (QI D cI cII 5 κm (mC cI cII κm τ') r ar) (gA 5 κm))
    (k : ∀ (H : Heap) (locs : List Loc), LSt D cI cII cJ κ κm o σ τ' z H → va_S (AL s) s.heap H locs → W p l e R s m args below meth c H locs cells slots Q (F0 m (pc + 3) ls (.int r :: rest))) :
    W p l e R s m args below meth c H locs cells slots Q (F0 m pc ls st0) := by
  have hAm := C.2.2.2.2.2.2.2.2.2.2.1
  have hAA : ∀ q, gA 5 κm q → AL s q := fun q ⟨k, hk, e⟩ => e ▸ hAm k hk
  refine va_calli hr hS (fun q _ h => hAA q h) hAA (fun r1 u t H1 locs1 ht hvm hw hB hz1 hk1 hS1 => ?_)
  subst hw
  exact k H1 locs1 (m_after C hL (by rw [← ht]; exact hB.1) (fun q h => Or.inl h) hk1) hS1
theorem r_modl {r : Int64} (C : LawC p l s m args c D cI cII cJ κ κm o b L xs) (hL : LSt D cI cII cJ κ κm o σ τ z H) (hS : va_S (AL s) s.heap H locs)
    (hr : va_Run p l e R s m args below meth c H locs cells slots 0 0 (F0 m pc ls st0) rest (QL D cI cII 5 κm (mC cI cII κm τ') r ar) (gA 5 κm))
    (k : ∀ (H : Heap) (locs : List Loc), LSt D cI cII cJ κ κm o σ τ' z H → va_S (AL s) s.heap H locs → W p l e R s m args below meth c H locs cells slots Q (F0 m (pc + 3) ls (.long r :: rest))) :
    W p l e R s m args below meth c H locs cells slots Q (F0 m pc ls st0) := by
  have hAm := C.2.2.2.2.2.2.2.2.2.2.1
  have hAA : ∀ q, gA 5 κm q → AL s q := fun q ⟨k, hk, e⟩ => e ▸ hAm k hk
  refine va_calll hr hS (fun q _ h => hAA q h) hAA (fun r1 u t H1 locs1 ht hvm hw hB hz1 hk1 hS1 => ?_)
  subst hw
  exact k H1 locs1 (m_after C hL (by rw [← ht]; exact hB.1) (fun q h => Or.inl h) hk1) hS1
theorem r_modd {r : UInt64} (C : LawC p l s m args c D cI cII cJ κ κm o b L xs) (hL : LSt D cI cII cJ κ κm o σ τ z H) (hS : va_S (AL s) s.heap H locs)
    (hr : va_Run p l e R s m args below meth c H locs cells slots 0 0 (F0 m pc ls st0) rest (QD D cI cII 5 κm (mC cI cII κm τ') r ar) (gA 5 κm))
    (k : ∀ (H : Heap) (locs : List Loc), LSt D cI cII cJ κ κm o σ τ' z H → va_S (AL s) s.heap H locs → W p l e R s m args below meth c H locs cells slots Q (F0 m (pc + 3) ls (.double r :: rest))) :
    W p l e R s m args below meth c H locs cells slots Q (F0 m pc ls st0) := by
  have hAm := C.2.2.2.2.2.2.2.2.2.2.1
  have hAA : ∀ q, gA 5 κm q → AL s q := fun q ⟨k, hk, e⟩ => e ▸ hAm k hk
  refine va_calld hr hS (fun q _ h => hAA q h) hAA (fun r1 u t H1 locs1 ht hvm hw hB hz1 hk1 hS1 => ?_)
  subst hw
  exact k H1 locs1 (m_after C hL (by rw [← ht]; exact hB.1) (fun q h => Or.inl h) hk1) hS1
theorem r_modF {r : Int32} (C : LawC p l s m args c D cI cII cJ κ κm o b L xs) (hL : LSt D cI cII cJ κ κm o σ τ z H) (hS : va_S (AL s) s.heap H locs)
    (hr : va_Run p l e R s m args below meth c H locs cells slots 1 12 (F0 m pc ls st0) rest (va_Qi (fun (r' : Int32) (_ : Unit) => r' = r) (fun _ => gP D cI cII 5 κm (mC cI cII κm τ')) (tA 5 κm H.size) ar) (tA 5 κm H.size))
    (k : ∀ (H : Heap) (locs : List Loc), LSt D cI cII cJ κ κm o σ τ' z H → va_S (AL s) s.heap H locs → W p l e R s m args below meth c H locs (cells + 1) (slots + 12) Q (F0 m (pc + 3) ls (.int r :: rest))) :
    W p l e R s m args below meth c H locs cells slots Q (F0 m pc ls st0) := by
  have hAm := C.2.2.2.2.2.2.2.2.2.2.1
  have hAA : ∀ q, tA 5 κm H.size q → AL s q := fun q h => h.elim (fun ⟨k, hk, e⟩ => e ▸ hAm k hk) (fun h => Nat.le_trans hS.1 h)
  refine va_calli hr hS (fun q _ h => hAA q h) hAA (fun r1 u t H1 locs1 ht hvm hw hB hz1 hk1 hS1 => ?_)
  subst hw
  exact k H1 locs1 (m_after C hL (by rw [← ht]; exact hB.1) (fun q h => h) hk1) hS1
theorem r_preF (C : LawC p l s m args c D cI cII cJ κ κm o b L xs) (hL : LSt D cI cII cJ κ κm o σ τ z H) (hS : va_S (AL s) s.heap H locs) : PreV s H RX4 (κm 0) (va_Pc [.ref (κm 0)] (fP D cI cII κm τ H.size)) [] := by
  have hK := C.2.2.1
  exact ⟨fP.blind, va_recv hK.1 hL.2.1 (q := (RX4, TX4, 12)) (ci := 4) rfl (q0 := 0) (by rw [gw_at (by decide)]; rfl), fun U hU hW => ⟨rfl, by rw [hU], by rw [hU]; exact hL.2.1, KX.warm hW hK⟩⟩
theorem r_clsi {r : Int32} (C : LawC p l s m args c D cI cII cJ κ κm o b L xs) (hL : LSt D cI cII cJ κ κm o σ τ z H) (hS : va_S (AL s) s.heap H locs)
    (hr : va_Run p l e R s m args below meth c H locs cells slots 0 0 (F0 m pc ls st0) rest (QI D cI cII 31 κ (xC cI cII κ σ') r ar) (gA 31 κ))
    (k : ∀ (H : Heap) (locs : List Loc), LSt D cI cII cJ κ κm o σ' τ z H → va_S (AL s) s.heap H locs → W p l e R s m args below meth c H locs cells slots Q (F0 m (pc + 3) ls (.int r :: rest))) :
    W p l e R s m args below meth c H locs cells slots Q (F0 m pc ls st0) := by
  have hA := C.2.2.2.2.2.2.2.2.2.1
  have hAA : ∀ q, gA 31 κ q → AL s q := fun q ⟨k, hk, e⟩ => e ▸ hA k hk
  refine va_calli hr hS (fun q _ h => hAA q h) hAA (fun r1 u t H1 locs1 ht hvm hw hB hz1 hk1 hS1 => ?_)
  subst hw
  exact k H1 locs1 (c_after C hL (by rw [← ht]; exact hB.1) (fun q h => Or.inl h) hk1) hS1
theorem r_clsl {r : Int64} (C : LawC p l s m args c D cI cII cJ κ κm o b L xs) (hL : LSt D cI cII cJ κ κm o σ τ z H) (hS : va_S (AL s) s.heap H locs)
    (hr : va_Run p l e R s m args below meth c H locs cells slots 0 0 (F0 m pc ls st0) rest (QL D cI cII 31 κ (xC cI cII κ σ') r ar) (gA 31 κ))
    (k : ∀ (H : Heap) (locs : List Loc), LSt D cI cII cJ κ κm o σ' τ z H → va_S (AL s) s.heap H locs → W p l e R s m args below meth c H locs cells slots Q (F0 m (pc + 3) ls (.long r :: rest))) :
    W p l e R s m args below meth c H locs cells slots Q (F0 m pc ls st0) := by
  have hA := C.2.2.2.2.2.2.2.2.2.1
  have hAA : ∀ q, gA 31 κ q → AL s q := fun q ⟨k, hk, e⟩ => e ▸ hA k hk
  refine va_calll hr hS (fun q _ h => hAA q h) hAA (fun r1 u t H1 locs1 ht hvm hw hB hz1 hk1 hS1 => ?_)
  subst hw
  exact k H1 locs1 (c_after C hL (by rw [← ht]; exact hB.1) (fun q h => Or.inl h) hk1) hS1
theorem r_clsd {r : UInt64} (C : LawC p l s m args c D cI cII cJ κ κm o b L xs) (hL : LSt D cI cII cJ κ κm o σ τ z H) (hS : va_S (AL s) s.heap H locs)
    (hr : va_Run p l e R s m args below meth c H locs cells slots 0 0 (F0 m pc ls st0) rest (QD D cI cII 31 κ (xC cI cII κ σ') r ar) (gA 31 κ))
    (k : ∀ (H : Heap) (locs : List Loc), LSt D cI cII cJ κ κm o σ' τ z H → va_S (AL s) s.heap H locs → W p l e R s m args below meth c H locs cells slots Q (F0 m (pc + 3) ls (.double r :: rest))) :
    W p l e R s m args below meth c H locs cells slots Q (F0 m pc ls st0) := by
  have hA := C.2.2.2.2.2.2.2.2.2.1
  have hAA : ∀ q, gA 31 κ q → AL s q := fun q ⟨k, hk, e⟩ => e ▸ hA k hk
  refine va_calld hr hS (fun q _ h => hAA q h) hAA (fun r1 u t H1 locs1 ht hvm hw hB hz1 hk1 hS1 => ?_)
  subst hw
  exact k H1 locs1 (c_after C hL (by rw [← ht]; exact hB.1) (fun q h => Or.inl h) hk1) hS1
theorem r_lald {rest : List Value} (C : LawC p l s m args c D cI cII cJ κ κm o b L xs) (hL : LSt D cI cII cJ κ κm o σ τ z H) (hdg : decode cL_law pc = .ok (.laload, 1))
    (k : W p l e R s m args below meth c H locs cells slots Q (F0 m (pc + 1) ls (.long z :: rest))) : W p l e R s m args below meth c H locs cells slots Q (F0 m pc ls (.int 0 :: .ref o :: rest)) :=
  va_lald (ws := [oc cJ o z]) C.1.1 C.1.2.1 C.2.2.2.2.2.1 (fun k q hk => by
    have h0 : k < 1 := (List.getElem?_eq_some_iff.mp hk).1
    rw [show k = 0 by omega] at hk
    cases hk
    exact hL.2.2) 0 0 (cA := cJ) (n := 1) (f := fun _ => z) rfl rfl (by unfold vp_in; decide) hdg k
theorem sc_in {I k L : Nat} (h1 : I + 4 ≤ L) (h2 : L ≤ 2048) (hk : k < 4) : vp_in (nI I + nI k) L := by
  rw [nI_add]
  exact nI_in (by omega) (by omega)
theorem sc_in0 {I L : Nat} (h1 : I + 4 ≤ L) (h2 : L ≤ 2048) : vp_in (nI I) L := by
  have := sc_in (k := 0) h1 h2 (by decide)
  rw [nI_add] at this
  exact this
end LW
