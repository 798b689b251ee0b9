/-! 79: a call that answers with a double -/
section GR
variable {p : Program} {l : Launch} {e : Env} {R : Room} {s : State} {m : MethodId} {args : Array Value} {below : List Frame} {meth : Method} {c : Code} {H : Heap} {locs : List Loc} {cells slots : Nat} {Q : State → Prop}
variable {cc : ByteArray} {pc : Nat} {ls : Array Slot} {rest : List Value} {D : va_G} {A : Nat → Prop} {n : Nat} {κ : Nat → Nat} {f f' : Nat → va_E} {cI cII : ClassId} {nL : Nat} {Ts : List Cond} {own : String}
variable {n0 : Nat} {y : MethodName} {bytes : ByteArray} {maxL na index : Nat} {ret : Option FieldType} {ws : List Cond} {rm : Room} {As st0 : List Value} {ar : Array Value}
theorem g_calld {r : UInt64} (hr : va_Run p l e R s m args below meth c H locs cells slots 0 0 (F0 m pc ls st0) rest (va_Qd (fun (r' : UInt64) (_ : Unit) => r' = r) (fun _ => gP D cI cII n0 κ f') (gA n0 κ) ar) (gA n0 κ))
    (hn0 : n0 ≤ n) (hκ : Inj n κ) (hA : ∀ k, k < n → A (κ k)) (hP : va_P D vwCl (gw n κ f) H) (hS : va_S A s.heap H locs) (hff : ∀ j, n0 ≤ j → j < n → f' j = f j)
    (kk : ∀ (H : Heap) (locs : List Loc), va_P D vwCl (gw n κ f') H → va_S A s.heap H locs → W p l e R s m args below meth c H locs cells slots Q (F0 m (pc + 3) ls (.double r :: rest))) : W p l e R s m args below meth c H locs cells slots Q (F0 m pc ls st0) := by
  have hAA : ∀ q, gA n0 κ q → A q := fun q ⟨k, hk, e⟩ => e ▸ hA k (by omega)
  refine va_calld hr hS (fun q _ h => hAA q h) hAA (fun r1 u t H1 locs1 ht hvm hw hB hz1 hk1 hS1 => ?_)
  subst hw
  exact kk H1 locs1 (gw_behind hn0 hκ hP (by rw [← ht]; exact hB.1) hff hk1) hS1
end GR
