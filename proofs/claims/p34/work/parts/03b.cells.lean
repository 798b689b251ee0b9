/-! 03b: what the cells hold -/
def xLen (k : Nat) : Nat := match k with
  | 5 => 6
  | 8 => 4094
  | 9 => 30
  | 10 => 6
  | 11 => 6
  | 12 => 200
  | 31 => 72
  | k => if k < 19 then 12 else 64
def xC (cI cII : ClassId) (κ : Nat → Nat) (σ : SX) (k : Nat) : va_E := match k with
  | 0 => .inr (3, [.ref (κ 1), .ref (κ 2), .ref (κ 3)])
  | 1 => .inr (2, [.int (σ.1 0), .ref (κ 4), .ref (κ 5), .ref (κ 6), .ref (κ 7)])
  | 2 => .inr (1, [.ref (κ 1), .ref (κ 8), .int (σ.1 1), .int (σ.1 2)])
  | 3 => .inr (0, [.ref (κ 1), .ref (κ 2), .int (σ.1 3), .int (σ.1 4), .ref (κ 9), .ref (κ 10), .ref (κ 11), .int (σ.1 5), .int (σ.1 6), .ref (κ 12), .int (σ.1 7)])
  | 4 => .inl (cII, 6, .inr (.inr (.inr (.inr (fun i => some (κ (13 + i)))))))
  | 6 => .inl (cII, 6, .inr (.inr (.inr (.inr (fun i => some (κ (19 + i)))))))
  | 7 => .inl (cII, 6, .inr (.inr (.inr (.inr (fun i => some (κ (25 + i)))))))
  | k => .inl (cI, xLen k, .inl (σ.2 k))
theorem xLen13 {r : Nat} (h : r < 6) : xLen (13 + r) = 12 := by
  rcases (show r = 0 ∨ r = 1 ∨ r = 2 ∨ r = 3 ∨ r = 4 ∨ r = 5 by omega) with rfl | rfl | rfl | rfl | rfl | rfl <;> rfl
theorem xLen19 {r : Nat} (h : r < 6) : xLen (19 + r) = 64 := by
  rcases (show r = 0 ∨ r = 1 ∨ r = 2 ∨ r = 3 ∨ r = 4 ∨ r = 5 by omega) with rfl | rfl | rfl | rfl | rfl | rfl <;> rfl
theorem xLen25 {r : Nat} (h : r < 6) : xLen (25 + r) = 64 := by
  rcases (show r = 0 ∨ r = 1 ∨ r = 2 ∨ r = 3 ∨ r = 4 ∨ r = 5 by omega) with rfl | rfl | rfl | rfl | rfl | rfl <;> rfl
theorem xLenS {a : Nat} (h : 19 ≤ a) (h2 : a < 31) : xLen a = 64 := by
  unfold xLen
  split <;> first | omega | (rw [if_neg (by omega)])
theorem xC_arr {cI cII : ClassId} {κ : Nat → Nat} {σ : SX} {a len : Nat} (ha : a = 5 ∨ 8 ≤ a) (hl : xLen a = len) : xC cI cII κ σ a = .inl (cI, len, .inl (σ.2 a)) := by
  subst hl
  unfold xC
  split <;> first | rfl | (exfalso; omega)
theorem xC_sa {cI cII : ClassId} {κ : Nat → Nat} {σ : SX} {a i : Nat} {v : Int32} (ha : a = 5 ∨ 8 ≤ a) (j : Nat) : xC cI cII κ (sa σ a i v) j = if j = a then .inl (cI, xLen a, .inl (upd (σ.2 a) i v)) else xC cI cII κ σ j := by
  by_cases h : j = a
  · subst h
    rw [if_pos rfl, xC_arr ha rfl]
    simp [sa]
  · rw [if_neg h]
    unfold xC
    split <;> first | rfl | simp [sa, h]
theorem xC_as {cI cII : ClassId} {κ : Nat → Nat} {σ σ' : SX} {a len : Nat} {i v : Int32} (hq : as_ σ a len i v = some σ') (ha : a = 5 ∨ 8 ≤ a) (hl : xLen a = len) (j : Nat) : xC cI cII κ σ' j = if j = a then .inl (cI, len, .inl (upd (σ.2 a) i.toNatClampNeg v)) else xC cI cII κ σ j := by
  obtain ⟨-, rfl⟩ := as_w hq
  rw [xC_sa ha, hl]
theorem xC_p0 {cI cII : ClassId} {κ : Nat → Nat} {σ : SX} {v : Int32} (j : Nat) : xC cI cII κ (ss σ 0 v) j = if j = 1 then .inr (2, [.int v, .ref (κ 4), .ref (κ 5), .ref (κ 6), .ref (κ 7)]) else xC cI cII κ σ j := by
  by_cases h : j = 1
  · subst h; rfl
  · rw [if_neg h]; unfold xC; split <;> first | rfl | (exfalso; exact h rfl)
theorem xC_p1 {cI cII : ClassId} {κ : Nat → Nat} {σ : SX} {v : Int32} (j : Nat) : xC cI cII κ (ss σ 1 v) j = if j = 2 then .inr (1, [.ref (κ 1), .ref (κ 8), .int v, .int (σ.1 2)]) else xC cI cII κ σ j := by
  by_cases h : j = 2
  · subst h; rfl
  · rw [if_neg h]; unfold xC; split <;> first | rfl | (exfalso; exact h rfl)
theorem xC_p2 {cI cII : ClassId} {κ : Nat → Nat} {σ : SX} {v : Int32} (j : Nat) : xC cI cII κ (ss σ 2 v) j = if j = 2 then .inr (1, [.ref (κ 1), .ref (κ 8), .int (σ.1 1), .int v]) else xC cI cII κ σ j := by
  by_cases h : j = 2
  · subst h; rfl
  · rw [if_neg h]; unfold xC; split <;> first | rfl | (exfalso; exact h rfl)
theorem xC_p3 {cI cII : ClassId} {κ : Nat → Nat} {σ : SX} {v : Int32} (j : Nat) : xC cI cII κ (ss σ 3 v) j = if j = 3 then .inr (0, [.ref (κ 1), .ref (κ 2), .int v, .int (σ.1 4), .ref (κ 9), .ref (κ 10), .ref (κ 11), .int (σ.1 5), .int (σ.1 6), .ref (κ 12), .int (σ.1 7)]) else xC cI cII κ σ j := by
  by_cases h : j = 3
  · subst h; rfl
  · rw [if_neg h]; unfold xC; split <;> first | rfl | (exfalso; exact h rfl)
theorem xC_p4 {cI cII : ClassId} {κ : Nat → Nat} {σ : SX} {v : Int32} (j : Nat) : xC cI cII κ (ss σ 4 v) j = if j = 3 then .inr (0, [.ref (κ 1), .ref (κ 2), .int (σ.1 3), .int v, .ref (κ 9), .ref (κ 10), .ref (κ 11), .int (σ.1 5), .int (σ.1 6), .ref (κ 12), .int (σ.1 7)]) else xC cI cII κ σ j := by
  by_cases h : j = 3
  · subst h; rfl
  · rw [if_neg h]; unfold xC; split <;> first | rfl | (exfalso; exact h rfl)
theorem xC_p5 {cI cII : ClassId} {κ : Nat → Nat} {σ : SX} {v : Int32} (j : Nat) : xC cI cII κ (ss σ 5 v) j = if j = 3 then .inr (0, [.ref (κ 1), .ref (κ 2), .int (σ.1 3), .int (σ.1 4), .ref (κ 9), .ref (κ 10), .ref (κ 11), .int v, .int (σ.1 6), .ref (κ 12), .int (σ.1 7)]) else xC cI cII κ σ j := by
  by_cases h : j = 3
  · subst h; rfl
  · rw [if_neg h]; unfold xC; split <;> first | rfl | (exfalso; exact h rfl)
theorem xC_p6 {cI cII : ClassId} {κ : Nat → Nat} {σ : SX} {v : Int32} (j : Nat) : xC cI cII κ (ss σ 6 v) j = if j = 3 then .inr (0, [.ref (κ 1), .ref (κ 2), .int (σ.1 3), .int (σ.1 4), .ref (κ 9), .ref (κ 10), .ref (κ 11), .int (σ.1 5), .int v, .ref (κ 12), .int (σ.1 7)]) else xC cI cII κ σ j := by
  by_cases h : j = 3
  · subst h; rfl
  · rw [if_neg h]; unfold xC; split <;> first | rfl | (exfalso; exact h rfl)
theorem xC_p7 {cI cII : ClassId} {κ : Nat → Nat} {σ : SX} {v : Int32} (j : Nat) : xC cI cII κ (ss σ 7 v) j = if j = 3 then .inr (0, [.ref (κ 1), .ref (κ 2), .int (σ.1 3), .int (σ.1 4), .ref (κ 9), .ref (κ 10), .ref (κ 11), .int (σ.1 5), .int (σ.1 6), .ref (κ 12), .int v]) else xC cI cII κ σ j := by
  by_cases h : j = 3
  · subst h; rfl
  · rw [if_neg h]; unfold xC; split <;> first | rfl | (exfalso; exact h rfl)
/-! the contracts' worlds and ends -/
abbrev xP (D : va_G) (cI cII : ClassId) (κ : Nat → Nat) (σ : SX) : State → Prop := gP D cI cII 31 κ (xC cI cII κ σ)
abbrev QI (D : va_G) (cI cII : ClassId) (n : Nat) (κ : Nat → Nat) (f : Nat → va_E) (r : Int32) : Array Value → State → Outcome → State → Prop := va_Qi (fun (r' : Int32) (_ : Unit) => r' = r) (fun _ => gP D cI cII n κ f) (gA n κ)
abbrev QL (D : va_G) (cI cII : ClassId) (n : Nat) (κ : Nat → Nat) (f : Nat → va_E) (r : Int64) : Array Value → State → Outcome → State → Prop := va_Ql (fun (r' : Int64) (_ : Unit) => r' = r) (fun _ => gP D cI cII n κ f) (gA n κ)
abbrev QD (D : va_G) (cI cII : ClassId) (n : Nat) (κ : Nat → Nat) (f : Nat → va_E) (r : UInt64) : Array Value → State → Outcome → State → Prop := va_Qd (fun (r' : UInt64) (_ : Unit) => r' = r) (fun _ => gP D cI cII n κ f) (gA n κ)
abbrev QV (D : va_G) (cI cII : ClassId) (n : Nat) (κ : Nat → Nat) (f : Nat → va_E) : Array Value → State → Outcome → State → Prop := va_Qv (fun (_ : Unit) => True) (fun _ => gP D cI cII n κ f) (gA n κ)
