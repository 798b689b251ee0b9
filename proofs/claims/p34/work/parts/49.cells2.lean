/-! 49: the cells of Steps while it is made -/
def sLen (k : Nat) : Nat := if k = 8 then 6 else if k < 8 then 12 else 64
def sC (cI cII : ClassId) (κ : Nat → Nat) (σ : SX) (k : Nat) : va_E := match k with
  | 0 => .inr (2, [.int (σ.1 0), .ref (κ 1), .ref (κ 8), .ref (κ 9), .ref (κ 16)])
  | 1 => .inl (cII, 6, .inr (.inr (.inr (.inr (fun i => some (κ (2 + i)))))))
  | 9 => .inl (cII, 6, .inr (.inr (.inr (.inr (fun i => some (κ (10 + i)))))))
  | 16 => .inl (cII, 6, .inr (.inr (.inr (.inr (fun i => some (κ (17 + i)))))))
  | k => .inl (cI, sLen k, .inl (σ.2 k))
theorem sLen2 {r : Nat} (h : r < 6) : sLen (2 + r) = 12 := by unfold sLen; rw [if_neg (by omega), if_pos (by omega)]
theorem sLen10 {r : Nat} (h : r < 6) : sLen (10 + r) = 64 := by unfold sLen; rw [if_neg (by omega), if_neg (by omega)]
theorem sLen17 {r : Nat} (h : r < 6) : sLen (17 + r) = 64 := by unfold sLen; rw [if_neg (by omega), if_neg (by omega)]
theorem sC_arr {cI cII : ClassId} {κ : Nat → Nat} {σ : SX} {a len : Nat} (ha : 2 ≤ a ∧ a ≠ 9 ∧ a ≠ 16) (hl : sLen a = len) : sC cI cII κ σ a = .inl (cI, len, .inl (σ.2 a)) := by
  subst hl
  unfold sC
  split <;> first | rfl | (exfalso; omega)
theorem sC_as {cI cII : ClassId} {κ : Nat → Nat} {σ σ' : SX} {a len : Nat} {i v : Int32} (hq : as_ σ a len i v = some σ') (ha : 2 ≤ a ∧ a ≠ 9 ∧ a ≠ 16) (hl : sLen a = len) (j : Nat) : sC cI cII κ σ' j = if j = a then .inl (cI, len, .inl (upd (σ.2 a) i.toNatClampNeg v)) else sC cI cII κ σ j := by
  obtain ⟨-, rfl⟩ := as_w hq
  by_cases h : j = a
  · subst h
    rw [if_pos rfl, sC_arr ha hl]
    simp [sa]
  · rw [if_neg h]
    unfold sC
    split <;> first | rfl | simp [sa, h]
