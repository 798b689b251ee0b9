/-! 21: sets that grow step by step -/
def anyB (N : Nat) (p : Nat → Bool) : Bool := (List.range N).any p
theorem anyB_iff {N : Nat} {p : Nat → Bool} : anyB N p = true ↔ ∃ k, k < N ∧ p k = true := by
  unfold anyB
  rw [List.any_eq_true]
  constructor
  · rintro ⟨k, h1, h2⟩; exact ⟨k, List.mem_range.mp h1, h2⟩
  · rintro ⟨k, h1, h2⟩; exact ⟨k, List.mem_range.mpr h1, h2⟩
theorem anyB_0 {p : Nat → Bool} : anyB 0 p = false := rfl
theorem anyB_succ {N : Nat} {p : Nat → Bool} : anyB (N + 1) p = (anyB N p || p N) := by
  unfold anyB
  rw [List.range_succ, List.any_append]
  simp
theorem anyB_false {N : Nat} {p : Nat → Bool} (h : ∀ k, k < N → p k = false) : anyB N p = false := by
  rw [Bool.eq_false_iff]
  intro q
  obtain ⟨k, h1, h2⟩ := anyB_iff.mp q
  rw [h k h1] at h2; cases h2
theorem bool_iff {a b : Bool} (h : a = true ↔ b = true) : a = b := by
  cases a <;> cases b <;> simp_all
theorem mask_add {N t : Nat} {P : Nat → Bool} (h : t < N) (hN : N ≤ 31) : nI (mask N P) ||| ((1 : Int32) <<< (nI t &&& 31)) = nI (mask N (fun k => P k || k == t)) := by
  have h2 : 2 ^ t < 2 ^ 31 := Nat.pow_lt_pow_right (by decide) (by omega)
  rw [i_shl (by omega), i_or (mask_lt' P hN) h2, mask_one h, mask_or]
theorem beq_some (k t : Nat) : (k == t) = (some t == some k) := by
  by_cases h : k = t
  · subst h; simp
  · rw [beq_eq_false_iff_ne.mpr h, beq_eq_false_iff_ne.mpr (fun q => h (Option.some.inj q).symm)]
/-- the ends of the label's steps -/
def endS (T : TT) (l : Nat) : Nat := mask 12 (fun t => anyB 12 fun s => T l s == some t)
/-- the states where steps end that begin in the set -/
def nxt (T : TT) (a : Nat) : Nat := mask 12 (fun t => anyB 6 fun l => anyB 12 fun s => (T l s == some t) && a.testBit s)
theorem anyB_cut {n : Nat} {p : Nat → Bool} (hn : n ≤ 12) (h : ∀ s, n ≤ s → p s = false) : anyB n p = anyB 12 p := by
  apply bool_iff
  rw [anyB_iff, anyB_iff]
  constructor
  · rintro ⟨k, h1, h2⟩; exact ⟨k, by omega, h2⟩
  · rintro ⟨k, h1, h2⟩
    refine ⟨k, ?_, h2⟩
    rcases Nat.lt_or_ge k n with g | g
    · exact g
    · rw [h k g] at h2; cases h2
theorem Sys.none {n : Nat} {T : TT} (h : Sys n T) {l s : Nat} (hs : n ≤ s) : T l s = none := by
  cases e : T l s with
  | none => rfl
  | some t => have := (h.2.2 l s t e).2.1; omega
theorem L_endsOf {σ : SX} {n : Nat} {T : TT} (hT : Sys n T) (h : EB σ n T) {l : Nat} (hl : l < 6) : fn_X2_endsOf σ (nI l) = some (nI (endS T l)) := by
  unfold fn_X2_endsOf
  simp only [letb]
  have hn := hT.2.1
  have := loop_0m (body := bd_X2_endsOf_4 σ (nI l)) (bot := fun _ _ => none) (fun i g => g (nI (mask 12 (fun t => anyB i fun s => T l s == some t))) (nI i)) n (some (nI (endS T l))) (by unfold FU; omega)
    (fun rec i hi => by
      unfold bd_X2_endsOf_4
      rw [h.1, if_neg (nI_ge hi (by omega)), arow_nI hl, Option.bind_some, ag_nI (by omega) (by decide), Option.bind_some, h.2.1 l i hl (by omega)]
      simp only [letb]
      rw [nI_1]
      cases e : T l i with
      | none =>
        rw [if_pos (show enc none = -1 from rfl)]
        congr 2
        refine mask_congr fun k _ => ?_
        rw [anyB_succ, e]; simp
      | some t =>
        have ht := (hT.2.2 l i t e).2.2
        rw [if_neg (by rw [show enc (some t) = nI t from rfl]; exact i_neg1 (by omega)), show enc (some t) = nI t from rfl, mask_add (by omega) (by decide)]
        congr 2
        refine mask_congr fun k _ => ?_
        rw [anyB_succ, e]
        congr 1
        exact beq_some _ _)
    (fun rec => by
      unfold bd_X2_endsOf_4
      rw [h.1, if_pos (nI_le (Nat.le_refl n) (by omega))]
      congr 2
      refine mask_congr fun k _ => ?_
      exact anyB_cut hn (fun s hs => by rw [hT.none hs]; rfl))
  refine Eq.trans ?_ this
  rw [show (mask 12 fun t => anyB 0 fun s => T l s == some t) = 0 from mask_0]
  rfl
theorem L_nextStates {σ : SX} {n : Nat} {T : TT} (hT : Sys n T) (h : EB σ n T) {a : Nat} (ha : a < 2 ^ 12) : fn_X2_nextStates σ (nI a) = some (nI (nxt T a)) := by
  unfold fn_X2_nextStates
  simp only [letb]
  have hn := hT.2.1
  have := loop_0m (body := bd_X2_nextStates_4 σ (nI a)) (bot := fun _ _ => none) (fun i g => g (nI (mask 12 (fun t => anyB i fun l => anyB 12 fun s => (T l s == some t) && a.testBit s))) (nI i)) 6 (some (nI (nxt T a))) (by decide)
    (fun rec l hl => by
      unfold bd_X2_nextStates_4
      rw [if_neg (show ¬ (6 : Int32) ≤ nI l from nI_ge hl (by decide))]
      simp only [letb]
      have h2 := loop_0m (body := bd_X2_nextStates_13 σ (nI a) rec (nI l)) (bot := fun _ _ => none) (fun i g => g (nI (mask 12 (fun t => (anyB l fun l => anyB 12 fun s => (T l s == some t) && a.testBit s) || anyB i fun s => (T l s == some t) && a.testBit s))) (nI i)) n
        (rec (nI (mask 12 (fun t => anyB (l + 1) fun l => anyB 12 fun s => (T l s == some t) && a.testBit s))) (nI (l + 1))) (by unfold FU; omega)
        (fun rec2 i hi => by
          unfold bd_X2_nextStates_13
          rw [h.1, if_neg (nI_ge hi (by omega)), arow_nI hl, Option.bind_some, ag_nI (by omega) (by decide), Option.bind_some, h.2.1 l i hl (by omega)]
          simp only [letb]
          rw [nI_1]
          cases e : T l i with
          | none =>
            rw [if_pos (show enc none = -1 from rfl)]
            congr 2
            refine mask_congr fun k _ => ?_
            rw [anyB_succ, e]; simp
          | some t =>
            have ht := (hT.2.2 l i t e).2.2
            rw [if_neg (by rw [show enc (some t) = nI t from rfl]; exact i_neg1 (by omega)), L_has (by omega) (by omega), Option.bind_some]
            cases eb : a.testBit i with
            | false =>
              rw [if_pos (show b2i false = 0 from rfl)]
              congr 2
              refine mask_congr fun k _ => ?_
              rw [anyB_succ, eb]; simp
            | true =>
              rw [if_neg (show ¬ b2i true = 0 by decide), show enc (some t) = nI t from rfl, mask_add (by omega) (by decide)]
              congr 2
              refine mask_congr fun k _ => ?_
              rw [anyB_succ, e, eb, Bool.or_assoc, Bool.and_true]
              congr 2
              exact beq_some _ _)
        (fun rec2 => by
          unfold bd_X2_nextStates_13
          rw [h.1, if_pos (nI_le (Nat.le_refl n) (by omega))]
          simp only [letb]
          rw [nI_1]
          congr 2
          refine mask_congr fun k _ => ?_
          rw [anyB_succ, anyB_cut hn (fun s hs => by rw [hT.none hs]; rfl)])
      refine Eq.trans ?_ h2
      simp only [anyB_0, Bool.or_false]
      rfl)
    (fun rec => by
      unfold bd_X2_nextStates_4
      rw [if_pos (show (6 : Int32) ≤ nI 6 from nI_le (Nat.le_refl 6) (by decide))]
      rfl)
  refine Eq.trans ?_ this
  rw [show (mask 12 fun t => anyB 0 fun l => anyB 12 fun s => (T l s == some t) && a.testBit s) = 0 from mask_0]
  rfl
/-! reached states -/
def rch (T : TT) : Nat → Nat
  | 0 => 1
  | k + 1 => rch T k ||| nxt T (rch T k)
theorem nxt_lt (T : TT) (a : Nat) : nxt T a < 2 ^ 12 := mask_lt _ _
theorem rch_lt (T : TT) : ∀ k, rch T k < 2 ^ 12
  | 0 => by show 1 < 2 ^ 12; decide
  | k + 1 => Nat.or_lt_two_pow (rch_lt T k) (nxt_lt T _)
theorem L_reached {σ : SX} {n : Nat} {T : TT} (hT : Sys n T) (h : EB σ n T) : fn_X2_reachedStates σ = some (nI (rch T (n - 1))) := by
  unfold fn_X2_reachedStates
  simp only [letb]
  have hn := hT.2.1
  have h1 := hT.1
  have := loop_0m (body := bd_X2_reachedStates_4 σ) (bot := fun _ _ => none) (fun i g => g (nI (rch T i)) (nI (i + 1))) (n - 1) (some (nI (rch T (n - 1)))) (by unfold FU; omega)
    (fun rec i hi => by
      unfold bd_X2_reachedStates_4
      rw [h.1, if_neg (nI_ge (by omega) (by omega)), L_nextStates hT h (rch_lt T i), Option.bind_some]
      simp only [letb]
      rw [i_or (by have := rch_lt T i; omega) (by have := nxt_lt T (rch T i); omega), nI_1]
      rfl)
    (fun rec => by
      unfold bd_X2_reachedStates_4
      rw [h.1, if_pos (nI_le (by omega) (by omega))])
  exact this
def distS (T : TT) (n t : Nat) : Option Nat := fnd n (fun k => (rch T k).testBit t)
/-! growing -/
def growth (T : TT) (a l : Nat) : Nat :=
  if (src T l (fun _ => true) &&& a ≠ 0) ∧ src T l a.testBit = 0 then src T l fun _ => true
  else if ndf (endS T l) a = 0 then src T l fun _ => true else endS T l
theorem endS_lt (T : TT) (l : Nat) : endS T l < 2 ^ 12 := mask_lt _ _
theorem growth_lt (T : TT) (a l : Nat) : growth T a l < 2 ^ 12 := by
  unfold growth
  split
  · exact src_lt _ _ _
  · split
    · exact src_lt _ _ _
    · exact endS_lt _ _
theorem nI_z {a : Nat} (ha : a < 2 ^ 31) : nI a = 0 ↔ a = 0 := nI_eq (b := 0) ha (by decide)
theorem endS_0 {n : Nat} {T : TT} (hT : Sys n T) (l a : Nat) : endS T l &&& a = 0 ↔ src T l a.testBit = 0 := by
  unfold endS src
  rw [mask_and]
  constructor
  · intro h
    rw [← mask_0 (N := 12), mask_eq] at h ⊢
    intro s hs
    cases e : T l s with
    | none => rfl
    | some t =>
      have ht := (hT.2.2 l s t e).2.2
      have h2 := hT.2.1
      have q := h t (by omega)
      have g : (anyB 12 fun s => T l s == some t) = true := anyB_iff.mpr ⟨s, hs, by rw [e]; simp⟩
      rw [g, Bool.true_and] at q
      exact q
  · intro h
    rw [← mask_0 (N := 12), mask_eq] at h ⊢
    intro t ht
    cases g : (anyB 12 fun s => T l s == some t) with
    | false => rfl
    | true =>
      obtain ⟨s, hs, e⟩ := anyB_iff.mp g
      have e2 : T l s = some t := by simpa using e
      have q := h s hs
      rw [e2] at q
      exact q
theorem L_growth {σ : SX} {n : Nat} {T : TT} (hT : Sys n T) (h : StOk σ n T) {a l : Nat} (ha : a < 2 ^ 12) (hl : l < 6) : fn_X2_growth σ (nI a) (nI l) = some (nI (growth T a l)) := by
  unfold fn_X2_growth
  have b1 : src T l (fun _ => true) &&& a < 2 ^ 31 := Nat.lt_of_le_of_lt Nat.and_le_left (src_lt' _ _ _)
  have b2 : endS T l &&& a < 2 ^ 31 := Nat.lt_of_le_of_lt Nat.and_le_left (by have := endS_lt T l; omega)
  rw [ag_nI hl (by decide), Option.bind_some, h.1.2.2 l hl]
  simp only [letb]
  rw [L_endsOf hT h.1 hl]
  simp only [Option.bind_some]
  rw [i_and (src_lt' _ _ _) (by omega), i_and (by have := endS_lt T l; omega) (by omega), i_ndf (by have := endS_lt T l; omega) (by omega)]
  have e1 : (if nI (ndf (endS T l) a) = 0 then some (nI (src T l fun _ => true)) else some (nI (endS T l))) = some (nI (if ndf (endS T l) a = 0 then src T l fun _ => true else endS T l)) := by
    by_cases c : ndf (endS T l) a = 0
    · rw [if_pos ((nI_z (by have := ndf_lt (b := a) (endS_lt T l); omega)).mpr c), if_pos c]
    · rw [if_neg (fun q => c ((nI_z (by have := ndf_lt (b := a) (endS_lt T l); omega)).mp q)), if_neg c]
  rw [e1]
  unfold growth
  have z0 := endS_0 hT l a
  by_cases c1 : src T l (fun _ => true) &&& a = 0
  · rw [if_pos ((nI_z b1).mpr c1), if_neg (show ¬ (src T l (fun _ => true) &&& a ≠ 0 ∧ src T l a.testBit = 0) from fun q => q.1 c1)]
  · rw [if_neg (fun q => c1 ((nI_z b1).mp q))]
    by_cases c2 : endS T l &&& a = 0
    · rw [if_neg (fun q => q ((nI_z b2).mpr c2)), if_pos ⟨c1, z0.mp c2⟩]
    · rw [if_pos (fun q => c2 ((nI_z b2).mp q)), if_neg (show ¬ (src T l (fun _ => true) &&& a ≠ 0 ∧ src T l a.testBit = 0) from fun q => c2 (z0.mpr q.2))]
/-- one round of growing, k rounds -/
def grow1 (T : TT) (a : Nat) : Nat := match mixS T a with
  | none => a
  | some l => a ||| growth T a l
def growK (T : TT) (a : Nat) : Nat → Nat
  | 0 => a
  | k + 1 => grow1 T (growK T a k)
theorem grow1_lt {T : TT} {a : Nat} (ha : a < 2 ^ 12) : grow1 T a < 2 ^ 12 := by
  unfold grow1
  split
  · exact ha
  · exact Nat.or_lt_two_pow ha (growth_lt _ _ _)
theorem growK_lt {T : TT} {a : Nat} (ha : a < 2 ^ 12) : ∀ k, growK T a k < 2 ^ 12
  | 0 => ha
  | k + 1 => grow1_lt (growK_lt ha k)
theorem growK_fix {T : TT} {a k : Nat} (h : mixS T (growK T a k) = none) : ∀ j, growK T a (k + j) = growK T a k
  | 0 => rfl
  | j + 1 => by
    show grow1 T (growK T a (k + j)) = _
    rw [growK_fix h j, grow1, h]
theorem mixS_lt {T : TT} {a l : Nat} (h : mixS T a = some l) : l < 6 := (fnd_some h).1
theorem L_grown {σ : SX} {n : Nat} {T : TT} (hT : Sys n T) (h : StOk σ n T) {a : Nat} (ha : a < 2 ^ 12) : fn_X2_grown σ (nI a) = some (nI (growK T a 12)) := by
  unfold fn_X2_grown
  simp only [letb]
  have := loop_find (body := bd_X2_grown_4 σ) (bot := fun _ _ => none) (fun i g => g (nI (growK T a i)) (nI i)) 12 (fun k => mixS T (growK T a k) == none) (fun i => some (nI (growK T a i))) (some (nI (growK T a 12))) (by decide)
    (fun rec i hi hp => by
      unfold bd_X2_grown_4
      have hr := growK_lt (T := T) ha i
      rw [if_neg (show ¬ (12 : Int32) ≤ nI i from nI_ge hi (by decide)), L_firstMixed h hr, Option.bind_some]
      simp only [letb]
      cases e : mixS T (growK T a i) with
      | none => rw [e] at hp; cases hp
      | some l =>
        have hl := mixS_lt e
        rw [if_pos (show ¬ enc (some l) = -1 from i_neg1 (by omega)), show enc (some l) = nI l from rfl, L_growth hT h hr hl, Option.bind_some, i_or (by omega) (by have := growth_lt T (growK T a i) l; omega), nI_1]
        show _ = rec (nI (grow1 T (growK T a i))) _
        rw [grow1, e])
    (fun rec i hi hp => by
      unfold bd_X2_grown_4
      have hr := growK_lt (T := T) ha i
      have e : mixS T (growK T a i) = none := by simpa using hp
      rw [if_neg (show ¬ (12 : Int32) ≤ nI i from nI_ge hi (by decide)), L_firstMixed h hr, Option.bind_some]
      simp only [letb]
      rw [e, if_neg (show ¬ ¬ enc none = -1 from fun q => q rfl)])
    (fun rec => by
      unfold bd_X2_grown_4
      rw [if_pos (show (12 : Int32) ≤ nI 12 from nI_le (Nat.le_refl 12) (by decide))])
  refine Eq.trans this ?_
  cases e : fnd 12 (fun k => mixS T (growK T a k) == none) with
  | none => rfl
  | some j =>
    obtain ⟨h1, h2, -⟩ := fnd_some e
    have h3 := growK_fix (T := T) (a := a) (k := j) (by simpa using h2) (12 - j)
    rw [show j + (12 - j) = 12 by omega] at h3
    rw [h3]
/-! pairs -/
theorem L_statePairs {σ : SX} {n : Nat} {T : TT} (hT : Sys n T) (h : EB σ n T) : fn_X2_statePairs σ = some (nI (n * (n - 1) / 2)) := by
  unfold fn_X2_statePairs
  have hn := hT.2.1
  have h1 := hT.1
  have h2 : n * (n - 1) ≤ 12 * 11 := Nat.mul_le_mul hn (by omega)
  rw [h.1, nI1, pk_sub h1, pk_mul, show (2 : Int32) = nI 2 from rfl, pk_div (by omega) (by decide) (by decide)]
/-- the states without a step with the label, if there are steps with it elsewhere -/
def stopS (n : Nat) (T : TT) (l : Nat) : Nat := if src T l (fun _ => true) = 0 then 0 else mask 12 fun s => decide (s < n) && (T l s == none)
theorem stopS_lt (n : Nat) (T : TT) (l : Nat) : stopS n T l < 2 ^ 12 := by
  unfold stopS
  split
  · decide
  · exact mask_lt _ _
theorem L_stopsOf {σ : SX} {n : Nat} {T : TT} (hT : Sys n T) (h : EB σ n T) {l : Nat} (hl : l < 6) : fn_X2_stopsOf σ (nI l) = some (nI (stopS n T l)) := by
  unfold fn_X2_stopsOf
  rw [ag_nI hl (by decide), Option.bind_some, h.2.2 l hl, L_all hT h]
  simp only [Option.bind_some]
  have b : 2 ^ n - 1 < 2 ^ 31 := by
    have : 2 ^ n ≤ 2 ^ 12 := Nat.pow_le_pow_right (by decide) hT.2.1
    omega
  unfold stopS
  by_cases c : src T l (fun _ => true) = 0
  · rw [if_neg (fun q => q ((nI_z (src_lt' _ _ _)).mpr c)), if_pos c]; rfl
  · rw [if_pos (fun q => c ((nI_z (src_lt' _ _ _)).mp q)), if_neg c, i_ndf b (src_lt' _ _ _)]
    congr 2
    apply Nat.eq_of_testBit_eq
    intro k
    rw [ndf_bit, Nat.testBit_two_pow_sub_one, mask_bit, src, mask_bit]
    have hn := hT.2.1
    by_cases hk : k < n
    · rw [decide_eq_true hk, decide_eq_true (show k < 12 by omega)]
      cases T l k <;> rfl
    · rw [decide_eq_false hk]; simp
/-- how many members a set has -/
def pc (a : Nat) : Nat := ((List.range 12).filter a.testBit).length
theorem bc64 : ∀ h, h < 64 → ∀ l, l < 64 → fn_J6_bitCount (nI (64 * h + l)) = some (nI (pc (64 * h + l))) := by decide +kernel
theorem bc_all (a : Nat) (h : a < 4096) : fn_J6_bitCount (nI a) = some (nI (pc a)) := by
  have := bc64 (a / 64) (by omega) (a % 64) (by omega)
  rw [show 64 * (a / 64) + a % 64 = a by omega] at this
  exact this
theorem pc_le (a : Nat) : pc a ≤ 12 := Nat.le_trans (List.length_filter_le _ _) (by simp)
def stopN (n : Nat) (T : TT) : Nat → Nat
  | 0 => 0
  | l + 1 => stopN n T l + pc (stopS n T l)
theorem stopN_le (n : Nat) (T : TT) : ∀ l, stopN n T l ≤ 12 * l
  | 0 => Nat.le_refl _
  | l + 1 => by
    have := stopN_le n T l
    have := pc_le (stopS n T l)
    show stopN n T l + pc (stopS n T l) ≤ 12 * (l + 1)
    omega
theorem L_stopPairs {σ : SX} {n : Nat} {T : TT} (hT : Sys n T) (h : EB σ n T) : fn_X2_stopPairs σ = some (nI (stopN n T 6)) := by
  unfold fn_X2_stopPairs
  simp only [letb]
  have := loop_0m (body := bd_X2_stopPairs_4 σ) (bot := fun _ _ => none) (fun i g => g (nI (stopN n T i)) (nI i)) 6 (some (nI (stopN n T 6))) (by decide)
    (fun rec l hl => by
      unfold bd_X2_stopPairs_4
      rw [if_neg (show ¬ (6 : Int32) ≤ nI l from nI_ge hl (by decide)), L_stopsOf hT h hl, Option.bind_some, bc_all _ (stopS_lt n T l), Option.bind_some]
      simp only [letb]
      rw [nI_add, nI_1]
      rfl)
    (fun rec => by
      unfold bd_X2_stopPairs_4
      rw [if_pos (show (6 : Int32) ≤ nI 6 from nI_le (Nat.le_refl 6) (by decide))])
  exact this
