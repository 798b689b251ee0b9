/-! 10: whole numbers and sets of bits -/
theorem i_and {a b : Nat} (ha : a < 2 ^ 31) (hb : b < 2 ^ 31) : nI a &&& nI b = nI (a &&& b) := by
  apply Int32.toBitVec_inj.mp
  apply BitVec.eq_of_toNat_eq
  have h : a &&& b < 2 ^ 31 := Nat.and_lt_two_pow a hb
  rw [Int32.toBitVec_and, BitVec.toNat_and, pk_tn (by omega), pk_tn (by omega), pk_tn (by omega)]
theorem i_or {a b : Nat} (ha : a < 2 ^ 31) (hb : b < 2 ^ 31) : nI a ||| nI b = nI (a ||| b) := by
  apply Int32.toBitVec_inj.mp
  apply BitVec.eq_of_toNat_eq
  have h : a ||| b < 2 ^ 31 := Nat.or_lt_two_pow ha hb
  rw [Int32.toBitVec_or, BitVec.toNat_or, pk_tn (by omega), pk_tn (by omega), pk_tn (by omega)]
/-- a without b -/
def ndf (a b : Nat) : Nat := a ^^^ (a &&& b)
theorem ndf_bit (a b k : Nat) : (ndf a b).testBit k = (a.testBit k && !b.testBit k) := by
  simp only [ndf, Nat.testBit_xor, Nat.testBit_and]
  cases a.testBit k <;> cases b.testBit k <;> rfl
theorem lt_of_bits {a n : Nat} (h : ∀ k, n ≤ k → a.testBit k = false) : a < 2 ^ n := Nat.lt_pow_two_of_testBit a (fun i hi => h i hi)
theorem bit_hi {a n k : Nat} (h : a < 2 ^ n) (hk : n ≤ k) : a.testBit k = false := Nat.testBit_lt_two_pow (Nat.lt_of_lt_of_le h (Nat.pow_le_pow_right (by decide) hk))
theorem ndf_lt {a b n : Nat} (h : a < 2 ^ n) : ndf a b < 2 ^ n := lt_of_bits fun k hk => by rw [ndf_bit, bit_hi h hk]; rfl
theorem i_ndf {a b : Nat} (ha : a < 2 ^ 31) (hb : b < 2 ^ 31) : nI a &&& (nI b ^^^ (-1)) = nI (ndf a b) := by
  apply Int32.toBitVec_inj.mp
  apply BitVec.eq_of_getLsbD_eq
  intro i hi
  have h := ndf_lt (b := b) ha
  rw [Int32.toBitVec_and, Int32.toBitVec_xor, BitVec.getLsbD_and, BitVec.getLsbD_xor]
  have e : ∀ {x : Nat}, x < 2 ^ 31 → (nI x).toBitVec.getLsbD i = x.testBit i := fun {x} hx => by
    rw [BitVec.getLsbD, pk_tn (by omega)]
  rw [e ha, e hb, e h, ndf_bit]
  have e1 : (-1 : Int32).toBitVec.getLsbD i = true := by
    have : (-1 : Int32).toBitVec = BitVec.allOnes 32 := by decide
    rw [this, BitVec.getLsbD_allOnes]
    exact decide_eq_true hi
  rw [e1]
  cases a.testBit i <;> cases b.testBit i <;> rfl
theorem sh31 : ∀ k : Nat, k < 31 → ((nI k &&& 31).toBitVec.smod 32).toNat = k := by decide +kernel
theorem i_shl {k : Nat} (hk : k < 31) : (1 : Int32) <<< (nI k &&& 31) = nI (2 ^ k) := by
  have h : 2 ^ k < 2 ^ 32 := Nat.pow_lt_pow_right (by decide) (by omega)
  have := pk_shlN (n := 1) (nI k &&& 31) k (sh31 k hk) (by omega)
  rw [Nat.one_mul] at this
  exact this
theorem i_bit {a k : Nat} (ha : a < 2 ^ 31) (hk : k < 31) : (nI a >>> (nI k &&& 31)) &&& 1 = if a.testBit k then 1 else 0 := by
  rw [pk_shrN ha (nI k &&& 31) k (sh31 k hk), pk_andN (n := a / 2 ^ k) (by have := Nat.div_le_self a (2 ^ k); omega) (m := 1) 1 (by decide)]
  rw [Nat.testBit_eq_decide_div_mod_eq]
  rcases Nat.mod_two_eq_zero_or_one (a / 2 ^ k) with h | h
  · have : a / 2 ^ k % 2 ^ 1 = 0 := h
    rw [this]; rfl
  · have : a / 2 ^ k % 2 ^ 1 = 1 := h
    rw [this]; rfl
theorem i_neg1 {a : Nat} (ha : a < 2 ^ 31) : ¬ nI a = -1 := fun h => by
  have h1 := congrArg Int32.toInt h
  rw [nI_toInt ha] at h1
  have : (-1 : Int32).toInt = -1 := by decide
  omega
/-- the sum of the powers of the k below N that P holds of -/
def mask : Nat → (Nat → Bool) → Nat
  | 0, _ => 0
  | N + 1, P => mask N P ||| (if P N then 2 ^ N else 0)
theorem mask_bit (N : Nat) (P : Nat → Bool) (k : Nat) : (mask N P).testBit k = (decide (k < N) && P k) := by
  induction N with
  | zero => simp [mask]
  | succ N ih =>
    rw [mask, Nat.testBit_or, ih]
    by_cases h : k = N
    · subst h
      cases hp : P k <;> simp
    · have h2 : (if P N = true then 2 ^ N else 0).testBit k = false := by
        split
        · rw [Nat.testBit_two_pow]; exact decide_eq_false (Ne.symm h)
        · exact Nat.zero_testBit k
      rw [h2, Bool.or_false]
      congr 1
      exact decide_eq_decide.mpr (by omega)
theorem mask_lt (N : Nat) (P : Nat → Bool) : mask N P < 2 ^ N := lt_of_bits fun k hk => by
  rw [mask_bit, decide_eq_false (by omega)]; rfl
theorem mask_lt' {N M : Nat} (P : Nat → Bool) (h : N ≤ M) : mask N P < 2 ^ M := Nat.lt_of_lt_of_le (mask_lt N P) (Nat.pow_le_pow_right (by decide) h)
theorem mask_congr {N : Nat} {P P' : Nat → Bool} (h : ∀ k, k < N → P k = P' k) : mask N P = mask N P' := Nat.eq_of_testBit_eq fun k => by
  rw [mask_bit, mask_bit]
  by_cases hk : k < N
  · rw [h k hk]
  · rw [decide_eq_false hk]; rfl
theorem mask_step {N : Nat} {P : Nat → Bool} (hN : N < 31) (h : P N = true) : nI (mask N P) ||| ((1 : Int32) <<< (nI N &&& 31)) = nI (mask (N + 1) P) := by
  have h2 : 2 ^ N < 2 ^ 31 := Nat.pow_lt_pow_right (by decide) hN
  rw [i_shl hN, i_or (mask_lt' P (by omega)) h2, mask, if_pos h]
theorem mask_skip {N : Nat} {P : Nat → Bool} (h : P N = false) : mask (N + 1) P = mask N P := by
  rw [mask, if_neg (by rw [h]; decide), Nat.or_zero]
/-! a loop that counts up -/
theorem loop_gen {F R : Type} {body : F → F} {bot : F} (ap : Nat → F → R) (m : Nat) (res : R) (hstep : ∀ rec i, i < m → ap i (body rec) = ap (i + 1) rec) (hend : ∀ rec, ap m (body rec) = res) :
    ∀ k i, i ≤ m → m < k + i → ap i (loopF k body bot) = res := by
  intro k
  induction k with
  | zero => intro i h1 h2; omega
  | succ k ih =>
    intro i h1 h2
    show ap i (body (loopF k body bot)) = res
    rcases Nat.lt_or_ge i m with h | h
    · rw [hstep _ i h]
      exact ih (i + 1) (by omega) (by omega)
    · have : i = m := by omega
      subst this
      exact hend _
theorem loop_0m {F R : Type} {body : F → F} {bot : F} (ap : Nat → F → R) (m : Nat) (res : R) (hm : m < FU) (hstep : ∀ rec i, i < m → ap i (body rec) = ap (i + 1) rec) (hend : ∀ rec, ap m (body rec) = res) : ap 0 (loopF FU body bot) = res :=
  loop_gen ap m res hstep hend FU 0 (Nat.zero_le _) (by omega)
