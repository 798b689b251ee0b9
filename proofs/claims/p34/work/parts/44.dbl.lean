/-! 44: numbers with a point -/
abbrev d1 : UInt64 := FP.dconst1
def dz (r : UInt64) : Option UInt64 := if r &&& 0x7fffffffffffffff ≤ 0x7ff0000000000000 then some r else none
theorem dz_w {r v : UInt64} (h : dz r = some v) : r = v ∧ vf_n64 r := by
  unfold dz at h
  by_cases c : r &&& 0x7fffffffffffffff ≤ 0x7ff0000000000000
  · rw [if_pos c] at h; exact ⟨Option.some.inj h, c⟩
  · rw [if_neg c] at h; cases h
/-- one less w over k -/
def fidV (w k : Nat) : UInt64 := FP.dsub d1 (FP.ddiv (FP.i2d (nI w)) (FP.i2d (nI k)))
def fidC (w k : Nat) : Bool := decide (FP.ddiv (FP.i2d (nI w)) (FP.i2d (nI k)) &&& 0x7fffffffffffffff ≤ 0x7ff0000000000000) && decide (fidV w k &&& 0x7fffffffffffffff ≤ 0x7ff0000000000000)
theorem fid_all : ((List.range 138).all fun k => (List.range (k + 2)).all fun w => fidC w (k + 1)) = true := by decide +kernel
