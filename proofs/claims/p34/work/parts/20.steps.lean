/-! 20: the system: what its tables hold, and what Steps answers -/
theorem ixo_nI {i n : Nat} (h : i < n) (hn : n < 2 ^ 31) : ixo (nI i) n = false := by
  unfold ixo
  rw [decide_eq_false (nI_pos (by omega)), decide_eq_false (by rw [nI_clamp (by omega)]; omega)]
  rfl
theorem arow_nI {l : Nat} (h : l < 6) : arow (nI l) = some l := by
  unfold arow
  rw [ixo_nI h (by decide), nI_clamp (by omega)]; rfl
theorem ag_nI {σ : SX} {a len i : Nat} (h : i < len) (hn : len < 2 ^ 31) : ag σ a len (nI i) = some (σ.2 a i) := by
  unfold ag
  rw [ixo_nI h hn, nI_clamp (by omega)]; rfl
theorem as_nI {σ : SX} {a len i : Nat} {v : Int32} (h : i < len) (hn : len < 2 ^ 31) : as_ σ a len (nI i) v = some (sa σ a i v) := by
  unfold as_
  rw [ixo_nI h hn, nI_clamp (by omega)]; rfl
theorem zr0 : zr 0 = some 0 := rfl
theorem zr1 : zr 1 = some 1 := rfl
theorem sa_self {σ : SX} {a i j : Nat} {v : Int32} : (sa σ a i v).2 a j = if j = i then v else σ.2 a j := by
  simp [sa, upd]
theorem sa_ne {σ : SX} {a b i j : Nat} {v : Int32} (h : b ≠ a) : (sa σ a i v).2 b j = σ.2 b j := by
  simp [sa, h]
theorem nI1 : (1 : Int32) = nI 1 := rfl
theorem nI0 : (0 : Int32) = nI 0 := rfl
def b2i (b : Bool) : Int32 := if b then 1 else 0
/-! the system -/
abbrev TT : Type := Nat → Nat → Option Nat
def enc (o : Option Nat) : Int32 := match o with
  | none => -1
  | some t => nI t
def Sys (n : Nat) (T : TT) : Prop := 1 ≤ n ∧ n ≤ 12 ∧ ∀ l s t, T l s = some t → l < 6 ∧ s < n ∧ t < n
def tob (o : Option Nat) (P : Nat → Bool) : Bool := match o with
  | none => false
  | some t => P t
/-- the states where the label's steps begin whose ends P holds of -/
def src (T : TT) (l : Nat) (P : Nat → Bool) : Nat := mask 12 (fun s => tob (T l s) P)
theorem src_lt (T : TT) (l : Nat) (P : Nat → Bool) : src T l P < 2 ^ 12 := mask_lt _ _
theorem src_lt' (T : TT) (l : Nat) (P : Nat → Bool) : src T l P < 2 ^ 31 := mask_lt' _ (by decide)
theorem enc_none {n : Nat} {T : TT} (h : Sys n T) {l s : Nat} : enc (T l s) = -1 ↔ T l s = none := by
  cases e : T l s with
  | none => simp [enc]
  | some t =>
    have := (h.2.2 l s t e).2.2
    have h2 := h.2.1
    simp only [enc, reduceCtorEq, iff_false]
    exact i_neg1 (by omega)
theorem enc_eq {n : Nat} {T : TT} (h : Sys n T) {l s t : Nat} (ht : t < 2 ^ 31) : enc (T l s) = nI t ↔ T l s = some t := by
  cases e : T l s with
  | none => simp only [enc, reduceCtorEq, iff_false]; exact fun q => i_neg1 ht q.symm
  | some u =>
    have := (h.2.2 l s u e).2.2
    have h2 := h.2.1
    simp only [enc, Option.some.injEq]
    exact nI_eq (by omega) ht
/-- states, ends and begins -/
def EB (σ : SX) (n : Nat) (T : TT) : Prop := σ.1 0 = nI n ∧ (∀ l s, l < 6 → s < 12 → σ.2 (13 + l) s = enc (T l s)) ∧ ∀ l, l < 6 → σ.2 5 l = nI (src T l fun _ => true)
/-- the tables of sources -/
def LH (σ : SX) (T : TT) (l : Nat) : Prop := (∀ a, a < 64 → σ.2 (19 + l) a = nI (src T l fun t => decide (t < 6) && a.testBit t)) ∧ ∀ a, a < 64 → σ.2 (25 + l) a = nI (src T l fun t => decide (6 ≤ t) && a.testBit (t - 6))
def StOk (σ : SX) (n : Nat) (T : TT) : Prop := EB σ n T ∧ ∀ l, l < 6 → LH σ T l
theorem L_all {σ : SX} {n : Nat} {T : TT} (hT : Sys n T) (h : EB σ n T) : fn_X2_all σ = some (nI (2 ^ n - 1)) := by
  unfold fn_X2_all
  have h1 : 2 ^ n ≤ 2 ^ 12 := Nat.pow_le_pow_right (by decide) hT.2.1
  have h2 : 1 ≤ 2 ^ n := Nat.one_le_two_pow
  rw [h.1, i_shl (by have := hT.2.1; omega), nI1, pk_sub h2]
theorem L_end {σ : SX} {n : Nat} {T : TT} (h : EB σ n T) {l s : Nat} (hl : l < 6) (hs : s < 12) : fn_X2_end σ (nI s) (nI l) = some (enc (T l s)) := by
  unfold fn_X2_end
  rw [arow_nI hl, Option.bind_some, ag_nI hs (by decide), Option.bind_some, h.2.1 l s hl hs]
theorem L_beginning {σ : SX} {n : Nat} {T : TT} (h : EB σ n T) {l : Nat} (hl : l < 6) : fn_X2_beginning σ (nI l) = some (nI (src T l fun _ => true)) := by
  unfold fn_X2_beginning
  rw [ag_nI hl (by decide), Option.bind_some, h.2.2 l hl]
theorem L_has {σ : SX} {a k : Nat} (ha : a < 2 ^ 31) (hk : k < 31) : fn_X3_has σ (nI a) (nI k) = some (b2i (a.testBit k)) := by
  unfold fn_X3_has
  rw [i_bit ha hk]
  cases a.testBit k <;> rfl
theorem b2i0 (b : Bool) : b2i b = 0 ↔ b = false := by cases b <;> decide
theorem b2i1 (b : Bool) : b2i b = 1 ↔ b = true := by cases b <;> decide
theorem L_src {σ : SX} {T : TT} {l a : Nat} (h : LH σ T l) (ha : a < 2 ^ 12) : ∃ u v : Int32, ag σ (19 + l) 64 (nI a &&& 63) = some u ∧ ag σ (25 + l) 64 ((nI a >>> ((6 : Int32) &&& 31)) &&& 63) = some v ∧ u ||| v = nI (src T l a.testBit) := by
  have e1 : nI a &&& 63 = nI (a % 64) := pk_andN (by omega) (m := 63) 6 (by decide)
  have e2 : (nI a >>> ((6 : Int32) &&& 31)) &&& 63 = nI (a / 64 % 64) := by
    rw [pk_shrN (by omega) ((6 : Int32) &&& 31) 6 (by decide)]
    exact pk_andN (n := a / 2 ^ 6) (by have := Nat.div_le_self a (2 ^ 6); omega) (m := 63) 6 (by decide)
  refine ⟨_, _, by rw [e1, ag_nI (Nat.mod_lt _ (by decide)) (by decide), h.1 _ (Nat.mod_lt _ (by decide))], by rw [e2, ag_nI (Nat.mod_lt _ (by decide)) (by decide), h.2 _ (Nat.mod_lt _ (by decide))], ?_⟩
  rw [i_or (src_lt' _ _ _) (src_lt' _ _ _)]
  congr 1
  apply Nat.eq_of_testBit_eq
  intro s
  rw [Nat.testBit_or, src, src, src, mask_bit, mask_bit, mask_bit]
  by_cases hs : s < 12
  · rw [decide_eq_true hs, Bool.true_and, Bool.true_and, Bool.true_and]
    cases T l s with
    | none => rfl
    | some t =>
      show (decide (t < 6) && (a % 64).testBit t || decide (6 ≤ t) && (a / 64 % 64).testBit (t - 6)) = a.testBit t
      have f1 : (a % 64).testBit t = (decide (t < 6) && a.testBit t) := Nat.testBit_mod_two_pow a 6 t
      have f2 : (a / 64 % 64).testBit (t - 6) = (decide (t - 6 < 6) && (a / 64).testBit (t - 6)) := Nat.testBit_mod_two_pow (a / 64) 6 (t - 6)
      have f3 : (a / 64).testBit (t - 6) = a.testBit (t - 6 + 6) := Nat.testBit_div_two_pow a (t - 6) (n := 6)
      rw [f1, f2, f3]
      by_cases ht : t < 6
      · rw [decide_eq_true ht, decide_eq_false (by omega)]; simp
      · rw [decide_eq_false ht, decide_eq_true (show 6 ≤ t by omega)]
        rw [show t - 6 + 6 = t by omega]
        by_cases h12 : t - 6 < 6
        · rw [decide_eq_true h12]; simp
        · rw [decide_eq_false h12, bit_hi ha (by omega)]; simp
  · rw [decide_eq_false hs]; rfl
/-- all steps of the label -/
def allS (T : TT) (l : Nat) (P : Nat → Nat → Bool) : Bool := (List.range 12).all fun s => match T l s with
  | none => true
  | some t => P s t
theorem allS_iff {T : TT} {l : Nat} {P : Nat → Nat → Bool} : allS T l P = true ↔ ∀ s, s < 12 → ∀ t, T l s = some t → P s t = true := by
  unfold allS
  rw [List.all_eq_true]
  constructor
  · intro h s hs t e
    have := h s (List.mem_range.mpr hs)
    rw [e] at this
    exact this
  · intro h s hs
    cases e : T l s with
    | none => rfl
    | some t => exact h s (List.mem_range.mp hs) t e
/-- in which way a label crosses a set -/
def wayS (T : TT) (l a : Nat) : Nat :=
  if allS T l (fun s t => a.testBit s == a.testBit t) then 0
  else if allS T l (fun s t => !a.testBit s && a.testBit t) then 1
  else if allS T l (fun s t => a.testBit s && !a.testBit t) then 2
  else 3
theorem wayS_le (T : TT) (l a : Nat) : wayS T l a ≤ 3 := by
  unfold wayS
  split
  · omega
  · split
    · omega
    · split <;> omega
theorem mask_eq {N : Nat} {P Q : Nat → Bool} : mask N P = mask N Q ↔ ∀ k, k < N → P k = Q k := by
  refine ⟨fun h k hk => ?_, mask_congr⟩
  have := congrArg (fun x => Nat.testBit x k) h
  simp only [mask_bit, decide_eq_true hk, Bool.true_and] at this
  exact this
theorem mask_0 {N : Nat} : mask N (fun _ => false) = 0 := Nat.eq_of_testBit_eq fun k => by rw [mask_bit, Nat.zero_testBit, Bool.and_false]
theorem mask_and {N a : Nat} {P : Nat → Bool} : mask N P &&& a = mask N (fun k => P k && a.testBit k) := Nat.eq_of_testBit_eq fun k => by
  rw [Nat.testBit_and, mask_bit, mask_bit, Bool.and_assoc]
theorem mask_ndf {N a : Nat} {P : Nat → Bool} : ndf (mask N P) a = mask N (fun k => P k && !a.testBit k) := Nat.eq_of_testBit_eq fun k => by
  rw [ndf_bit, mask_bit, mask_bit, Bool.and_assoc]
theorem mask_or {N : Nat} {P Q : Nat → Bool} : mask N P ||| mask N Q = mask N (fun k => P k || Q k) := Nat.eq_of_testBit_eq fun k => by
  rw [Nat.testBit_or, mask_bit, mask_bit, mask_bit, ← Bool.and_or_distrib_left]
theorem mask_one {N t : Nat} (h : t < N) : 2 ^ t = mask N (fun k => k == t) := Nat.eq_of_testBit_eq fun k => by
  rw [Nat.testBit_two_pow, mask_bit]
  by_cases e : k = t
  · subst e; simp [h]
  · simp [e, Ne.symm e]
theorem mask_self {N a : Nat} (h : a < 2 ^ N) : mask N a.testBit = a := Nat.eq_of_testBit_eq fun k => by
  rw [mask_bit]
  by_cases hk : k < N
  · rw [decide_eq_true hk, Bool.true_and]
  · rw [decide_eq_false hk, bit_hi h (by omega)]; rfl
theorem nI_ne {a b : Nat} (ha : a < 2 ^ 31) (hb : b < 2 ^ 31) (h : a ≠ b) : ¬ nI a = nI b := fun q => h ((nI_eq ha hb).mp q)
theorem L_way {σ : SX} {n : Nat} {T : TT} (h : EB σ n T) {l a : Nat} (hl : l < 6) (hL : LH σ T l) (ha : a < 2 ^ 12) : fn_X2_way σ (nI a) (nI l) = some (nI (wayS T l a)) := by
  unfold fn_X2_way
  rw [ag_nI hl (by decide), Option.bind_some, h.2.2 l hl]
  simp only [letb]
  obtain ⟨u, v, hu, hv, huv⟩ := L_src hL ha
  rw [arow_nI hl, Option.bind_some, hu, Option.bind_some, Option.bind_some, hv, Option.bind_some, huv, i_and (src_lt' _ _ _) (by omega)]
  generalize hI : src T l (fun _ => true) &&& a = I
  generalize hE : src T l a.testBit = E
  generalize hA : src T l (fun _ => true) = A at hI ⊢
  have bA : A < 2 ^ 31 := hA ▸ src_lt' _ _ _
  have bE : E < 2 ^ 31 := hE ▸ src_lt' _ _ _
  have bI : I < 2 ^ 31 := by rw [← hI]; exact Nat.lt_of_le_of_lt Nat.and_le_left bA
  have eI : I = mask 12 (fun s => tob (T l s) fun _ => a.testBit s) := by
    rw [← hI, ← hA, src, mask_and]
    refine mask_congr fun k _ => ?_
    cases T l k <;> rfl
  have q0 : I = E ↔ allS T l (fun s t => a.testBit s == a.testBit t) = true := by
    rw [eI, ← hE, src, mask_eq, allS_iff]
    refine forall_congr' fun s => forall_congr' fun hs => ?_
    cases e : T l s with
    | none => simp [tob]
    | some t => simp [tob]
  have q1 : (I = 0 ∧ E = A) ↔ allS T l (fun s t => !a.testBit s && a.testBit t) = true := by
    rw [eI, ← hE, ← hA, src, src, mask_eq, ← mask_0 (N := 12), mask_eq, allS_iff, ← forall_and]
    refine forall_congr' fun s => ?_
    rw [← forall_and]
    refine forall_congr' fun hs => ?_
    cases e : T l s with
    | none => simp [tob]
    | some t => simp [tob]
  have q2 : (E = 0 ∧ I = A) ↔ allS T l (fun s t => a.testBit s && !a.testBit t) = true := by
    rw [eI, ← hE, ← hA, src, src, mask_eq, ← mask_0 (N := 12), mask_eq, allS_iff, ← forall_and]
    refine forall_congr' fun s => ?_
    rw [← forall_and]
    refine forall_congr' fun hs => ?_
    cases e : T l s with
    | none => simp [tob]
    | some t => simp [tob, and_comm]
  have n0 : (0 : Nat) < 2 ^ 31 := by decide
  by_cases c0 : I = E
  · rw [if_neg (fun q => q (congrArg nI c0)), wayS, if_pos (q0.mp c0)]; rfl
  · rw [if_pos (nI_ne bI bE c0)]
    unfold wayS
    rw [if_neg (fun q => c0 (q0.mpr q))]
    have K : (if ¬ nI E = 0 then some (3 : Int32) else if ¬ nI I = nI A then some 3 else some 2) = some (nI (if allS T l (fun s t => a.testBit s && !a.testBit t) = true then 2 else 3)) := by
      by_cases c2 : E = 0
      · rw [if_neg (fun q => q (congrArg nI c2))]
        by_cases c3 : I = A
        · rw [if_neg (fun q => q (congrArg nI c3)), if_pos (q2.mp ⟨c2, c3⟩)]; rfl
        · rw [if_pos (nI_ne bI bA c3), if_neg (fun q => c3 (q2.mpr q).2)]; rfl
      · rw [if_pos (show ¬ nI E = 0 from nI_ne bE n0 c2), if_neg (fun q => c2 (q2.mpr q).1)]; rfl
    by_cases c1 : I = 0
    · rw [if_neg (fun q => q (congrArg nI c1))]
      by_cases c3 : E = A
      · rw [if_neg (fun q => q (congrArg nI c3)), if_pos (q1.mp ⟨c1, c3⟩)]; rfl
      · rw [if_pos (nI_ne bE bA c3), if_neg (fun q => c3 (q1.mpr q).2)]; exact K
    · rw [if_pos (show ¬ nI I = 0 from nI_ne bI n0 c1), if_neg (fun q => c1 (q1.mpr q).1)]; exact K
/-! the first number that something holds of -/
def fndF (p : Nat → Bool) : Nat → Nat → Option Nat
  | 0, _ => none
  | k + 1, i => if p i then some i else fndF p k (i + 1)
def fnd (N : Nat) (p : Nat → Bool) : Option Nat := fndF p N 0
theorem fndF_some {p : Nat → Bool} : ∀ {k i j : Nat}, fndF p k i = some j → i ≤ j ∧ j < i + k ∧ p j = true ∧ ∀ q, i ≤ q → q < j → p q = false := by
  intro k
  induction k with
  | zero => intro i j h; cases h
  | succ k ih =>
    intro i j h
    unfold fndF at h
    split at h
    · next hp => cases h; exact ⟨Nat.le_refl _, by omega, hp, fun q h1 h2 => by omega⟩
    · next hp =>
      obtain ⟨h1, h2, h3, h4⟩ := ih h
      refine ⟨by omega, by omega, h3, fun q g1 g2 => ?_⟩
      rcases Nat.lt_or_ge i q with g | g
      · exact h4 q g g2
      · have : q = i := by omega
        subst this
        exact Bool.eq_false_iff.mpr hp
theorem fndF_none {p : Nat → Bool} : ∀ {k i : Nat}, fndF p k i = none → ∀ q, i ≤ q → q < i + k → p q = false := by
  intro k
  induction k with
  | zero => intro i h q h1 h2; omega
  | succ k ih =>
    intro i h q h1 h2
    unfold fndF at h
    split at h
    · cases h
    · next hp =>
      rcases Nat.lt_or_ge i q with g | g
      · exact ih h q g (by omega)
      · have : q = i := by omega
        subst this
        exact Bool.eq_false_iff.mpr hp
theorem fnd_some {N j : Nat} {p : Nat → Bool} (h : fnd N p = some j) : j < N ∧ p j = true ∧ ∀ q, q < j → p q = false := by
  obtain ⟨-, h2, h3, h4⟩ := fndF_some h
  exact ⟨by omega, h3, fun q hq => h4 q (Nat.zero_le _) hq⟩
theorem fnd_none {N : Nat} {p : Nat → Bool} (h : fnd N p = none) : ∀ q, q < N → p q = false := fun q hq => fndF_none h q (Nat.zero_le _) (by omega)
theorem fnd_congr {N : Nat} {p q : Nat → Bool} (h : ∀ i, i < N → p i = q i) : fnd N p = fnd N q := by
  have : ∀ k i, i + k ≤ N → fndF p k i = fndF q k i := by
    intro k
    induction k with
    | zero => intro i _; rfl
    | succ k ih =>
      intro i hi
      unfold fndF
      rw [h i (by omega), ih (i + 1) (by omega)]
  exact this N 0 (by omega)
theorem fnd_of {N j : Nat} {p : Nat → Bool} (h1 : j < N) (h2 : p j = true) (h3 : ∀ q, q < j → p q = false) : fnd N p = some j := by
  cases e : fnd N p with
  | none => rw [fnd_none e j h1] at h2; cases h2
  | some k =>
    obtain ⟨a1, a2, a3⟩ := fnd_some e
    rcases Nat.lt_trichotomy j k with h | h | h
    · rw [a3 j h] at h2; cases h2
    · rw [h]
    · rw [h3 k h] at a2; cases a2
theorem fnd_of_none {N : Nat} {p : Nat → Bool} (h : ∀ q, q < N → p q = false) : fnd N p = none := by
  cases e : fnd N p with
  | none => rfl
  | some k =>
    obtain ⟨a1, a2, a3⟩ := fnd_some e
    rw [h k a1] at a2; cases a2
theorem loop_find {F R : Type} {body : F → F} {bot : F} (ap : Nat → F → R) (N : Nat) (p : Nat → Bool) (yes : Nat → R) (no : R) (hN : N < FU) (hstep : ∀ rec i, i < N → p i = false → ap i (body rec) = ap (i + 1) rec) (hyes : ∀ rec i, i < N → p i = true → ap i (body rec) = yes i)
    (hend : ∀ rec, ap N (body rec) = no) : ap 0 (loopF FU body bot) = match fnd N p with
      | some i => yes i
      | none => no := by
  cases e : fnd N p with
  | none => exact loop_0m ap N no hN (fun rec i hi => hstep rec i hi (fnd_none e i hi)) hend
  | some j =>
    obtain ⟨h1, h2, h3⟩ := fnd_some e
    exact loop_0m ap j (yes j) (by omega) (fun rec i hi => hstep rec i (by omega) (h3 i hi)) (fun rec => hyes rec j h1 h2)
/-- the smallest label that crosses a set MIXED -/
def mixS (T : TT) (a : Nat) : Option Nat := fnd 6 (fun l => wayS T l a == 3)
theorem L_firstMixed {σ : SX} {n : Nat} {T : TT} (h : StOk σ n T) {a : Nat} (ha : a < 2 ^ 12) : fn_X2_firstMixed σ (nI a) = some (enc (mixS T a)) := by
  unfold fn_X2_firstMixed
  simp only [letb]
  have := loop_find (body := bd_X2_firstMixed_2 σ (nI a)) (bot := fun _ => none) (fun i g => g (nI i)) 6 (fun l => wayS T l a == 3) (fun i => some (nI i)) (some (-1)) (by decide)
    (fun rec i hi hp => by
      unfold bd_X2_firstMixed_2
      rw [if_neg (show ¬ (6 : Int32) ≤ nI i from nI_ge hi (by decide)), L_way h.1 hi (h.2 i hi) ha, Option.bind_some, if_pos (show ¬ nI (wayS T i a) = 3 from nI_ne (b := 3) (by have := wayS_le T i a; omega) (by decide) (by simpa using hp))]
      simp only [letb]
      rw [nI_1])
    (fun rec i hi hp => by
      unfold bd_X2_firstMixed_2
      rw [if_neg (show ¬ (6 : Int32) ≤ nI i from nI_ge hi (by decide)), L_way h.1 hi (h.2 i hi) ha, Option.bind_some, if_neg (show ¬ ¬ nI (wayS T i a) = 3 from fun q => q (by rw [show wayS T i a = 3 by simpa using hp]; rfl))])
    (fun rec => by
      unfold bd_X2_firstMixed_2
      rw [if_pos (show (6 : Int32) ≤ nI 6 from nI_le (Nat.le_refl 6) (by decide))])
  refine Eq.trans this ?_
  show _ = some (enc (fnd 6 (fun l => wayS T l a == 3)))
  cases fnd 6 (fun l => wayS T l a == 3) <;> rfl
