/-! 47: the fidelity is one just where nothing is lumped and nothing leaks -/
theorem one_all : ((List.range 87).all fun k => (List.range (k + 2)).all fun w => (decide (Op.cmpValue (FP.dcmp (fidV w (k + 1)) d1) .l = 0) == decide (w = 0))) = true := by decide +kernel
theorem one_d1 : Op.cmpValue (FP.dcmp d1 d1) .l = 0 := by decide +kernel
theorem fid_one {n : Nat} {T : TT} (hT : Sys n T) (h6 : n ≤ 6) : Op.cmpValue (FP.dcmp (fidS n T) d1) .l = 0 ↔ lumpS n T + leakS n T = 0 := by
  have l1 := lump_le (T := T) hT.2.1
  have l2 := leak_le n T
  have h2 : n * (n - 1) ≤ 6 * 5 := Nat.mul_le_mul h6 (by omega)
  have := stopN_le n T 6
  unfold fidS pairsS
  by_cases c : n * (n - 1) / 2 + stopN n T 6 = 0
  · rw [if_pos c]
    exact ⟨fun _ => by omega, fun _ => one_d1⟩
  · rw [if_neg c]
    have h1 := (List.all_eq_true.mp ((List.all_eq_true.mp one_all) (n * (n - 1) / 2 + stopN n T 6 - 1) (List.mem_range.mpr (by omega)))) (lumpS n T + leakS n T) (List.mem_range.mpr (by omega))
    rw [show n * (n - 1) / 2 + stopN n T 6 - 1 + 1 = n * (n - 1) / 2 + stopN n T 6 by omega] at h1
    exact decide_eq_decide.mp (beq_iff_eq.mp h1)
