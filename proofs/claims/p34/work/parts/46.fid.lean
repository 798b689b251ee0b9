/-! 46: fidelity -/
def pairsS (n : Nat) (T : TT) : Nat := n * (n - 1) / 2 + stopN n T 6
def fidS (n : Nat) (T : TT) : UInt64 := if pairsS n T = 0 then d1 else fidV (lumpS n T + leakS n T) (pairsS n T)
theorem stop_eq (n : Nat) (T : TT) : ∀ l, stopN n T l = sumN (fun l => sumN (fun s => b2n (askP n T s l)) 12) l
  | 0 => rfl
  | l + 1 => by rw [stopN, stop_eq n T l, sumN, pc_sum]; rfl
theorem leak_le (n : Nat) (T : TT) : leakS n T ≤ stopN n T 6 := by
  rw [stop_eq]
  unfold leakS
  refine sumN_mono fun l _ => sumN_mono fun s _ => b2n_mono fun h => ?_
  unfold leakP at h
  rw [Bool.and_eq_true] at h
  exact h.1
theorem gauss : ∀ n, n < 13 → sumN (fun a => a) n = n * (n - 1) / 2 := by decide
theorem lump_le {n : Nat} {T : TT} (hn : n ≤ 12) : lumpS n T ≤ n * (n - 1) / 2 := by
  rw [← gauss n (by omega)]
  unfold lumpS
  refine sumN_mono fun a ha => ?_
  rw [← sumN_cut (n := a) (N := n) (by omega) (fun k hk => by rw [decide_eq_false (show ¬ k < a by omega)]; rfl)]
  have := sumN_le (g := fun b => b2n (decide (b < a) && sameP n T a b)) (c := 1) (N := a) (fun k _ => by show b2n _ ≤ 1; cases (decide (k < a) && sameP n T a k) <;> decide)
  omega
theorem pairs_le {n : Nat} {T : TT} (hn : n ≤ 12) : pairsS n T ≤ 138 := by
  have h2 : n * (n - 1) ≤ 12 * 11 := Nat.mul_le_mul hn (by omega)
  have := stopN_le n T 6
  unfold pairsS
  omega
theorem fid_ok {w k : Nat} (hk : 0 < k) (hk2 : k ≤ 138) (hw : w ≤ k) : (dz (FP.ddiv (FP.i2d (nI w)) (FP.i2d (nI k)))).bind (fun v => dz (FP.dsub d1 v)) = some (fidV w k) := by
  have h1 := (List.all_eq_true.mp ((List.all_eq_true.mp fid_all) (k - 1) (List.mem_range.mpr (by omega)))) w (List.mem_range.mpr (by omega))
  rw [show k - 1 + 1 = k by omega] at h1
  unfold fidC at h1
  rw [Bool.and_eq_true] at h1
  have h2 := of_decide_eq_true h1.1
  have h3 := of_decide_eq_true h1.2
  unfold dz
  rw [if_pos h2, Option.bind_some]
  unfold fidV at h3 ⊢
  rw [if_pos h3]
theorem fid_ok2 {w k : Nat} {α : Type} {f : UInt64 → Option α} (hk : 0 < k) (hk2 : k ≤ 138) (hw : w ≤ k) : ((dz (FP.ddiv (FP.i2d (nI w)) (FP.i2d (nI k)))).bind fun v => (dz (FP.dsub d1 v)).bind f) = f (fidV w k) := by
  rw [← Option.bind_assoc, fid_ok hk hk2 hw]; rfl
theorem X_fidelity {σ : SX} {n : Nat} {T : TT} {mk : Option Nat} (hT : Sys n T) (h : XI σ n T mk) : ∃ σ', fn_X3_fidelity σ = some (fidS n T, σ') ∧ XI σ' n T mk := by
  have hn := hT.2.1
  have hp := pairs_le (T := T) hn
  unfold fn_X3_fidelity
  simp only [letb]
  rw [L_statePairs hT h.1.1, Option.bind_some, L_stopPairs hT h.1.1, Option.bind_some, nI_add, show n * (n - 1) / 2 + stopN n T 6 = pairsS n T from rfl]
  unfold fidS
  by_cases c : pairsS n T = 0
  · rw [if_neg (fun q => q ((nI_z (by omega)).mpr c)), if_pos c]
    exact ⟨σ, rfl, h⟩
  · rw [if_pos (fun q => c ((nI_z (by omega)).mp q)), if_neg c]
    obtain ⟨σ1, e1, k1, q1⟩ := L_lumps hT h.1 h.2.1
    have i1 := h.keepR k1 q1
    obtain ⟨σ2, e2, k2, q2⟩ := L_leaks hT i1.1 i1.2.1
    have i2 := i1.keepR k2 q2
    have l1 := lump_le (T := T) hn
    have l2 := leak_le n T
    rw [e1]
    simp only [bind2, Option.bind_some]
    rw [e2]
    simp only [Option.bind_some]
    rw [nI_add, fid_ok2 (by omega) hp (by unfold pairsS; omega)]
    exact ⟨σ2, rfl, i2⟩
