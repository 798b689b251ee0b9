/-! 28: counts, reached states (out of whole's parts 30 to 34) -/
theorem sumN_zero {g : Nat → Nat} : ∀ {N : Nat}, sumN g N = 0 ↔ ∀ k, k < N → g k = 0
  | 0 => ⟨fun _ k hk => by omega, fun _ => rfl⟩
  | N + 1 => by
    have ih := sumN_zero (g := g) (N := N)
    rw [sumN]
    constructor
    · intro h k hk
      by_cases c : k = N
      · subst c; omega
      · exact ih.mp (by omega) k (by omega)
    · intro h
      have h1 := ih.mpr (fun k hk => h k (by omega))
      have h2 := h N (by omega)
      omega
theorem sumN_mono {g h : Nat → Nat} : ∀ {N : Nat}, (∀ k, k < N → g k ≤ h k) → sumN g N ≤ sumN h N
  | 0, _ => Nat.le_refl _
  | N + 1, hle => by
    have := sumN_mono (N := N) (fun k hk => hle k (by omega))
    have := hle N (by omega)
    rw [sumN, sumN]; omega
theorem sumN_eq {g h : Nat → Nat} : ∀ {N : Nat}, (∀ k, k < N → g k ≤ h k) → (sumN g N = sumN h N ↔ ∀ k, k < N → g k = h k)
  | 0, _ => ⟨fun _ k hk => by omega, fun _ => rfl⟩
  | N + 1, hle => by
    have ih := sumN_eq (N := N) (fun k hk => hle k (by omega))
    have hm := sumN_mono (N := N) (fun k hk => hle k (by omega))
    have hN := hle N (by omega)
    rw [sumN, sumN]
    constructor
    · intro e k hk
      by_cases c : k = N
      · subst c; omega
      · exact ih.mp (by omega) k (by omega)
    · intro e
      have := ih.mpr (fun k hk => e k (by omega))
      have := e N (by omega)
      omega
theorem b2n0 (b : Bool) : b2n b = 0 ↔ b = false := by cases b <;> decide
theorem b2n_eq {a b : Bool} : b2n a = b2n b ↔ a = b := by cases a <;> cases b <;> decide
theorem b2n_mono {a b : Bool} (h : a = true → b = true) : b2n a ≤ b2n b := by cases a <;> cases b <;> simp_all [b2n]
def go (T : TT) (a : Nat) : Nat := a ||| nxt T a
def subn (a b : Nat) : Prop := ∀ t, a.testBit t = true → b.testBit t = true
theorem pc_mono {a b : Nat} (h : subn a b) : pc a ≤ pc b := by
  rw [pc_sum, pc_sum]
  exact sumN_mono fun k _ => b2n_mono (h k)
theorem pc_lt {a b : Nat} (h : subn a b) (ha : a < 2 ^ 12) (hb : b < 2 ^ 12) (hne : a ≠ b) : pc a < pc b := by
  have h1 := pc_mono h
  rcases Nat.lt_or_ge (pc a) (pc b) with g | g
  · exact g
  · exfalso
    apply hne
    have e : pc a = pc b := by omega
    rw [pc_sum, pc_sum] at e
    have e2 := (sumN_eq fun k _ => b2n_mono (h k)).mp e
    apply Nat.eq_of_testBit_eq
    intro k
    by_cases hk : k < 12
    · exact b2n_eq.mp (e2 k hk)
    · rw [bit_hi ha (by omega), bit_hi hb (by omega)]
theorem subn_or (a b : Nat) : subn a (a ||| b) := fun t h => by rw [Nat.testBit_or, h]; rfl
theorem pc_n {a n : Nat} (hn : n ≤ 12) (ha : a < 2 ^ n) : pc a ≤ n := by
  rw [pc_sum, ← sumN_cut hn (fun k hk => by rw [bit_hi ha hk]; rfl)]
  have := sumN_le (g := fun k => b2n (a.testBit k)) (c := 1) (N := n) (fun k _ => b2n_le _)
  omega
theorem nxt_n {n : Nat} {T : TT} (hT : Sys n T) (a : Nat) : nxt T a < 2 ^ n := lt_of_bits fun k hk => by
  unfold nxt
  rw [mask_bit, anyB_false, Bool.and_false]
  intro l _
  refine anyB_false fun s _ => ?_
  rw [Bool.eq_false_iff]
  intro h
  simp only [Bool.and_eq_true, beq_iff_eq] at h
  have := (hT.2.2 l s k h.1).2.2
  omega
theorem rch_n {n : Nat} {T : TT} (hT : Sys n T) : ∀ k, rch T k < 2 ^ n
  | 0 => by
    have : 2 ^ 1 ≤ 2 ^ n := Nat.pow_le_pow_right (by decide) hT.1
    show 1 < 2 ^ n
    omega
  | k + 1 => Nat.or_lt_two_pow (rch_n hT k) (nxt_n hT _)
theorem rch_pc {n : Nat} {T : TT} : ∀ k, (∀ j, j < k → rch T (j + 1) ≠ rch T j) → k + 1 ≤ pc (rch T k)
  | 0, _ => by show 1 ≤ pc 1; decide
  | k + 1, h => by
    have ih := rch_pc (n := n) (T := T) k (fun j hj => h j (by omega))
    have := pc_lt (subn_or (rch T k) (nxt T (rch T k))) (rch_lt T k) (rch_lt T (k + 1)) (fun e => h k (by omega) e.symm)
    show k + 1 + 1 ≤ pc (rch T k ||| nxt T (rch T k))
    omega
theorem rch_fix {T : TT} {k : Nat} (h : rch T (k + 1) = rch T k) : ∀ j, rch T (k + j) = rch T k
  | 0 => rfl
  | j + 1 => by
    show rch T (k + j) ||| nxt T (rch T (k + j)) = _
    rw [rch_fix h j]
    exact h
theorem rch_end {n : Nat} {T : TT} (hT : Sys n T) : ∃ k, k < n ∧ rch T (k + 1) = rch T k ∧ (∀ j, j < k → rch T (j + 1) ≠ rch T j) ∧ ∀ j, k ≤ j → rch T j = rch T k := by
  have hn := hT.2.1
  cases e : fnd n (fun k => rch T (k + 1) == rch T k) with
  | none =>
    exfalso
    have h1 := rch_pc (n := n) (T := T) n (fun j hj => by simpa using fnd_none e j hj)
    have h2 := pc_n hn (rch_n hT n)
    omega
  | some k =>
    obtain ⟨h1, h2, h3⟩ := fnd_some e
    have h2' : rch T (k + 1) = rch T k := by simpa using h2
    refine ⟨k, h1, h2', fun j hj => by simpa using h3 j hj, fun j hj => ?_⟩
    have := rch_fix h2' (j - k)
    rw [show k + (j - k) = j by omega] at this
    exact this
theorem ask_cut {n : Nat} {T : TT} {s l : Nat} (hs : n ≤ s) : askP n T s l = false := by
  unfold askP stopS
  split
  · exact Nat.zero_testBit s
  · rw [mask_bit, decide_eq_false (show ¬ s < n by omega)]; simp
/-- the marking behind a label that fires, none if it can't -/
def behO (n : Nat) (T : TT) (l m : Nat) : Option Nat := if canS n T l m then some (behS n T l m) else none
def idxO (L : List Nat) (m : Nat) : Option Nat := fnd L.length fun i => L.getD i 0 == m
/-- the marking behind a label, and the present one then -/
def fireM (n : Nat) (T : TT) (l m : Nat) : Nat := if canS n T l m then behS n T l m else m

theorem hasS_f {T : TT} {l s : Nat} : hasS T l s = false ↔ T l s = none := by unfold hasS; simp
theorem hasS_t {T : TT} {l s : Nat} : hasS T l s = true ↔ ¬ T l s = none := by unfold hasS; simp
