/-! 24: how many pairs -/
def sumN (g : Nat → Nat) : Nat → Nat
  | 0 => 0
  | k + 1 => sumN g k + g k
theorem sumN_congr {g g' : Nat → Nat} : ∀ {N : Nat}, (∀ k, k < N → g k = g' k) → sumN g N = sumN g' N
  | 0, _ => rfl
  | N + 1, h => by rw [sumN, sumN, sumN_congr (fun k hk => h k (by omega)), h N (by omega)]
theorem sumN_add {g g' : Nat → Nat} : ∀ N : Nat, sumN (fun k => g k + g' k) N = sumN g N + sumN g' N
  | 0 => rfl
  | N + 1 => by rw [sumN, sumN, sumN, sumN_add N]; omega
theorem sumN_0 : ∀ N : Nat, sumN (fun _ => 0) N = 0
  | 0 => rfl
  | N + 1 => by rw [sumN, sumN_0 N]
theorem sumN_swap (f : Nat → Nat → Nat) (M : Nat) : ∀ N : Nat, sumN (fun a => sumN (f a) M) N = sumN (fun b => sumN (fun a => f a b) N) M
  | 0 => (sumN_0 M).symm
  | N + 1 => by
    rw [sumN, sumN_swap f M N]
    show _ = sumN (fun b => sumN (fun a => f a b) N + f N b) M
    rw [sumN_add]
theorem sumN_le {g : Nat → Nat} {c : Nat} : ∀ {N : Nat}, (∀ k, k < N → g k ≤ c) → sumN g N ≤ c * N
  | 0, _ => Nat.le_refl _
  | N + 1, h => by
    have := sumN_le (N := N) (fun k hk => h k (by omega))
    have := h N (by omega)
    rw [sumN, Nat.mul_succ]; omega
/-- 1 or 0 -/
def b2n (b : Bool) : Nat := if b then 1 else 0
theorem b2n_le (b : Bool) : b2n b ≤ 1 := by cases b <;> decide
theorem sumN_cut {g : Nat → Nat} {n : Nat} : ∀ {N : Nat}, n ≤ N → (∀ k, n ≤ k → g k = 0) → sumN g n = sumN g N := by
  intro N
  induction N with
  | zero => intro h _; have : n = 0 := by omega
            subst this; rfl
  | succ N ih =>
    intro h hz
    by_cases c : n = N + 1
    · rw [c]
    · rw [sumN, ← ih (by omega) hz, hz N (by omega)]; rfl
/-- how many members a set below 2^N has, as a sum -/
theorem filter_len (p : Nat → Bool) : ∀ N : Nat, ((List.range N).filter p).length = sumN (fun k => b2n (p k)) N
  | 0 => rfl
  | N + 1 => by
    rw [List.range_succ, List.filter_append, List.length_append, filter_len p N, sumN]
    cases h : p N with
    | true => rw [List.filter_cons_of_pos h]; rfl
    | false => rw [List.filter_cons_of_neg (by rw [h]; decide)]; rfl
theorem pc_sum (a : Nat) : pc a = sumN (fun k => b2n (a.testBit k)) 12 := filter_len _ _
/-! pairs that no region tells apart -/
def sameP (n : Nat) (T : TT) (a b : Nat) : Bool := apartS n T a b == none
theorem apartS_symm {n : Nat} {T : TT} (a b : Nat) : apartS n T a b = apartS n T b a := fnd_congr fun i _ => by
  cases (rg n T i).testBit a <;> cases (rg n T i).testBit b <;> rfl
/-- b < a -/
def lumpS (n : Nat) (T : TT) : Nat := sumN (fun a => sumN (fun b => b2n (decide (b < a) && sameP n T a b)) n) n
theorem lump_sym (n : Nat) (T : TT) : sumN (fun a => sumN (fun b => b2n (decide (a < b) && sameP n T a b)) n) n = lumpS n T := by
  unfold lumpS
  rw [sumN_swap]
  refine sumN_congr fun a _ => sumN_congr fun b _ => ?_
  show b2n (decide (b < a) && (apartS n T b a == none)) = b2n (decide (b < a) && (apartS n T a b == none))
  rw [apartS_symm]
theorem Known.keepR {σ σ' : SX} {n : Nat} {T : TT} (h2 : σ'.1 2 = 1) (hR : RegD σ' (RgL n T)) : Known σ' n T := Or.inr ⟨h2, hR⟩
theorem enc_ap {n : Nat} {T : TT} (hT : Sys n T) {a b : Nat} : enc (apartS n T a b) = -1 ↔ apartS n T a b = none := enc_n _ fun t h => by
  have := (fnd_some h).1
  have := RgL_len hT
  omega
theorem L_lumps {σ : SX} {n : Nat} {T : TT} (hT : Sys n T) (h : StOk σ n T) (hk : Known σ n T) :
    ∃ σ', fn_X1_pairsNotApart σ = some (nI (lumpS n T), σ') ∧ KeepR σ σ' ∧ Known σ' n T := by
  have hn := hT.2.1
  unfold fn_X1_pairsNotApart
  simp only [letb]
  rw [← lump_sym]
  have hle : ∀ a, sumN (fun b => b2n (decide (a < b) && sameP n T a b)) n ≤ 1 * n := fun a => sumN_le fun b _ => b2n_le _
  have hle2 : ∀ k, k ≤ n → sumN (fun a => sumN (fun b => b2n (decide (a < b) && sameP n T a b)) n) k ≤ 144 := fun k hk => by
    have := sumN_le (N := k) (fun a _ => hle a)
    have : 1 * n * k ≤ 12 * 12 := Nat.mul_le_mul (by omega) (by omega)
    omega
  refine loop_rel (body := bd_X1_pairsNotApart_4) (bot := fun _ _ _ => none) (fun i (τ : SX) g => g (nI (sumN (fun a => sumN (fun b => b2n (decide (a < b) && sameP n T a b)) n) i)) (nI i) τ) n (fun i τ => KeepR σ τ ∧ Known τ n T)
    (fun o => ∃ σ', o = some (nI (sumN (fun a => sumN (fun b => b2n (decide (a < b) && sameP n T a b)) n) n), σ') ∧ KeepR σ σ' ∧ Known σ' n T) ?_ ?_ FU 0 σ (Nat.zero_le _) (by unfold FU; omega) ⟨KeepR.rf, hk⟩
  · intro rec i τ hi ⟨hK, hKn⟩ hnext
    unfold bd_X1_pairsNotApart_4
    rw [hK.1 0 (by decide) (by decide), h.1.1, if_neg (nI_ge hi (by omega))]
    simp only [letb]
    rw [nI_1]
    have e0 : sumN (fun b => b2n (decide (i < b) && sameP n T i b)) (i + 1) = 0 := by
      refine Eq.trans (sumN_congr (g' := fun _ => 0) fun k hk => ?_) (sumN_0 _)
      rw [decide_eq_false (show ¬ i < k by omega)]; rfl
    have e3 : nI (sumN (fun a => sumN (fun b => b2n (decide (a < b) && sameP n T a b)) n) i) = nI (sumN (fun a => sumN (fun b => b2n (decide (a < b) && sameP n T a b)) n) i + sumN (fun b => b2n (decide (i < b) && sameP n T i b)) (i + 1)) := by
      rw [e0]; rfl
    rw [e3]
    refine loop_rel (body := bd_X1_pairsNotApart_19 rec (nI i)) (bot := fun _ _ _ => none) (fun j (τ : SX) g => g (nI (sumN (fun a => sumN (fun b => b2n (decide (a < b) && sameP n T a b)) n) i + sumN (fun b => b2n (decide (i < b) && sameP n T i b)) j)) (nI j) τ) n (fun j τ => i + 1 ≤ j ∧ KeepR σ τ ∧ Known τ n T)
      (fun o => ∃ σ', o = some (nI (sumN (fun a => sumN (fun b => b2n (decide (a < b) && sameP n T a b)) n) n), σ') ∧ KeepR σ σ' ∧ Known σ' n T) ?_ ?_ FU (i + 1) τ (by omega) (by unfold FU; omega) ⟨Nat.le_refl _, hK, hKn⟩
    · intro rec2 j τ hj ⟨hij, hK, hKn⟩ hnext2
      unfold bd_X1_pairsNotApart_19
      obtain ⟨σ1, e1, k1, h2, hR⟩ := L_firstApart hT (h.keepR hK) hKn (a := i) (b := j) (by omega) (by omega)
      rw [hK.1 0 (by decide) (by decide), h.1.1, if_neg (nI_ge hj (by omega)), e1]
      simp only [bind2, Option.bind_some, letb]
      rw [nI_1]
      have hstep := hnext2 σ1 ⟨by omega, hK.trans k1, Or.inr ⟨h2, hR⟩⟩
      try dsimp only at hstep
      rw [sumN] at hstep
      by_cases c : apartS n T i j = none
      · rw [if_neg (fun q => q ((enc_ap hT).mpr c)), nI_1]
        rw [show b2n (decide (i < j) && sameP n T i j) = 1 by unfold sameP; rw [c, decide_eq_true (show i < j by omega)]; rfl] at hstep
        exact hstep
      · rw [if_pos (fun q => c ((enc_ap hT).mp q))]
        rw [show b2n (decide (i < j) && sameP n T i j) = 0 by unfold sameP; rw [ob_ne c]; simp [b2n]] at hstep
        exact hstep
    · intro rec2 τ ⟨hij, hK, hKn⟩
      unfold bd_X1_pairsNotApart_19
      rw [hK.1 0 (by decide) (by decide), h.1.1, if_pos (nI_le (Nat.le_refl n) (by omega))]
      simp only [letb]
      rw [nI_1]
      exact hnext τ ⟨hK, hKn⟩
  · intro rec τ ⟨hK, hKn⟩
    unfold bd_X1_pairsNotApart_4
    rw [hK.1 0 (by decide) (by decide), h.1.1, if_pos (nI_le (Nat.le_refl n) (by omega))]
    exact ⟨τ, rfl, hK, hKn⟩
/-! pairs of a state and a label that no region prevents -/
def askP (n : Nat) (T : TT) (s l : Nat) : Bool := (stopS n T l).testBit s
def leakP (n : Nat) (T : TT) (s l : Nat) : Bool := askP n T s l && (prevS n T s l == none)
def leakS (n : Nat) (T : TT) : Nat := sumN (fun l => sumN (fun s => b2n (leakP n T s l)) 12) 6
theorem Int32_bits {x : Int32} {a : Nat} (ha : a < 2 ^ 12) : nI a &&& (x ^^^ (-1)) = nI (mask 12 fun k => a.testBit k && !x.toBitVec.getLsbD k) := by
  apply Int32.toBitVec_inj.mp
  apply BitVec.eq_of_getLsbD_eq
  intro i hi
  rw [Int32.toBitVec_and, Int32.toBitVec_xor, BitVec.getLsbD_and, BitVec.getLsbD_xor]
  have e : ∀ {x : Nat}, x < 2 ^ 31 → (nI x).toBitVec.getLsbD i = x.testBit i := fun {x} hx => by
    rw [BitVec.getLsbD, pk_tn (by omega)]
  rw [e (by omega), e (mask_lt' _ (by decide)), mask_bit]
  have e1 : (-1 : Int32).toBitVec.getLsbD i = true := by
    have : (-1 : Int32).toBitVec = BitVec.allOnes 32 := by decide
    rw [this, BitVec.getLsbD_allOnes]
    exact decide_eq_true hi
  rw [e1]
  by_cases h : i < 12
  · rw [decide_eq_true h]; cases a.testBit i <;> cases x.toBitVec.getLsbD i <;> rfl
  · rw [decide_eq_false h, bit_hi ha (by omega)]; rfl
theorem nI_bit {a k : Nat} (ha : a < 2 ^ 31) : (nI a).toBitVec.getLsbD k = a.testBit k := by
  rw [BitVec.getLsbD, pk_tn (by omega)]
theorem bit_or_nI {x : Int32} {a k : Nat} (ha : a < 2 ^ 31) : (x ||| nI a).toBitVec.getLsbD k = (x.toBitVec.getLsbD k || a.testBit k) := by
  rw [Int32.toBitVec_or, BitVec.getLsbD_or, nI_bit ha]
theorem bit_or_not {x : Int32} {a k : Nat} (ha : a < 2 ^ 31) (hk : k < 32) : (x ||| (nI a ^^^ (-1))).toBitVec.getLsbD k = (x.toBitVec.getLsbD k || !a.testBit k) := by
  have e1 : (-1 : Int32).toBitVec.getLsbD k = true := by
    have : (-1 : Int32).toBitVec = BitVec.allOnes 32 := by decide
    rw [this, BitVec.getLsbD_allOnes]
    exact decide_eq_true hk
  rw [Int32.toBitVec_or, Int32.toBitVec_xor, BitVec.getLsbD_or, BitVec.getLsbD_xor, nI_bit ha, e1]
  cases a.testBit k <;> rfl
theorem L_preventedIn {σ : SX} {n : Nat} {T : TT} (hT : Sys n T) (h : StOk σ n T) (hk : Known σ n T) {l : Nat} (hl : l < 6) :
    ∃ (x : Int32) (σ' : SX), fn_X1_preventedIn σ (nI l) = some (x, σ') ∧ KeepR σ σ' ∧ Known σ' n T ∧ ∀ s, s < 12 → x.toBitVec.getLsbD s = anyB (RgL n T).length fun k => prevP T (rg n T k) s l := by
  obtain ⟨σ1, e1, k1, h2, hR⟩ := L_count hT h hk
  unfold fn_X1_preventedIn
  simp only [letb, bind2]
  rw [e1]
  simp only [Option.bind_some]
  have hlen := RgL_len hT
  have e0 : ∀ j, j < (RgL n T).length → ag σ1 8 4094 (nI j) = some (nI (rg n T j)) := fun j hj => by rw [ag_nI (by omega) (by decide), hR.2 j hj]; rfl
  refine loop_rel (body := bd_X1_preventedIn_10 (nI l) σ1 (nI (RgL n T).length)) (bot := fun _ _ => none) (fun i (x : Int32) g => g x (nI i)) (RgL n T).length (fun i x => ∀ s, s < 12 → x.toBitVec.getLsbD s = anyB i fun k => prevP T (rg n T k) s l)
    (fun o => ∃ (x : Int32) (σ' : SX), o = some (x, σ') ∧ KeepR σ σ' ∧ Known σ' n T ∧ ∀ s, s < 12 → x.toBitVec.getLsbD s = anyB (RgL n T).length fun k => prevP T (rg n T k) s l) ?_ ?_ FU 0 0 (Nat.zero_le _) (by unfold FU; omega) (fun s hs => ?_)
  · intro rec i x hi hx hnext
    have bi := rg_lt hT hi
    have hw := wayS_le T l (rg n T i)
    unfold bd_X1_preventedIn_10
    rw [if_neg (nI_ge hi (by omega)), e0 i hi, Option.bind_some, L_way (h.keepR k1).1 hl ((h.keepR k1).2 l hl) bi, Option.bind_some]
    simp only [letb]
    rw [nI_1]
    by_cases c2 : wayS T l (rg n T i) = 2
    · rw [if_neg (fun q => q (by rw [c2]; rfl)), Option.bind_some]
      refine hnext _ fun s hs => ?_
      rw [bit_or_not (by omega) (by omega), hx s hs, anyB_succ]
      congr 1
      unfold prevP
      rw [c2]
      cases (rg n T i).testBit s <;> rfl
    · rw [if_pos (show ¬ nI (wayS T l (rg n T i)) = 2 from nI_ne (b := 2) (by omega) (by decide) c2)]
      by_cases c1 : wayS T l (rg n T i) = 1
      · rw [if_neg (fun q => q (by rw [c1]; rfl)), Option.bind_some]
        refine hnext _ fun s hs => ?_
        rw [bit_or_nI (by omega), hx s hs, anyB_succ]
        congr 1
        unfold prevP
        rw [c1]
        cases (rg n T i).testBit s <;> rfl
      · rw [if_pos (show ¬ nI (wayS T l (rg n T i)) = 1 from nI_ne (b := 1) (by omega) (by decide) c1)]
        refine hnext _ fun s hs => ?_
        rw [hx s hs, anyB_succ]
        have : prevP T (rg n T i) s l = false := by
          unfold prevP
          split
          · simpa using c1
          · simpa using c2
        rw [this, Bool.or_false]
  · intro rec x hx
    unfold bd_X1_preventedIn_10
    rw [if_pos (nI_le (Nat.le_refl _) (by omega))]
    exact ⟨x, σ1, rfl, k1, Or.inr ⟨h2, hR⟩, hx⟩
  · rw [anyB_0]
    have : (0 : Int32).toBitVec = 0#32 := by decide
    rw [this]; simp
theorem fnd_any {N : Nat} {p : Nat → Bool} : (fnd N p == none) = !anyB N p := by
  cases e : fnd N p with
  | none => rw [anyB_false (fnd_none e)]; rfl
  | some j =>
    obtain ⟨h1, h2, -⟩ := fnd_some e
    rw [anyB_iff.mpr ⟨j, h1, h2⟩]; rfl
theorem L_leaks {σ : SX} {n : Nat} {T : TT} (hT : Sys n T) (h : StOk σ n T) (hk : Known σ n T) :
    ∃ σ', fn_X1_pairsNotPrevented σ = some (nI (leakS n T), σ') ∧ KeepR σ σ' ∧ Known σ' n T := by
  unfold fn_X1_pairsNotPrevented
  simp only [letb]
  have hle : ∀ l, sumN (fun s => b2n (leakP n T s l)) 12 ≤ 1 * 12 := fun a => sumN_le fun b _ => b2n_le _
  refine loop_rel (body := bd_X1_pairsNotPrevented_4) (bot := fun _ _ _ => none) (fun i (τ : SX) g => g (nI (sumN (fun l => sumN (fun s => b2n (leakP n T s l)) 12) i)) (nI i) τ) 6 (fun i τ => KeepR σ τ ∧ Known τ n T)
    (fun o => ∃ σ', o = some (nI (leakS n T), σ') ∧ KeepR σ σ' ∧ Known σ' n T) ?_ ?_ FU 0 σ (Nat.zero_le _) (by decide) ⟨KeepR.rf, hk⟩
  · intro rec l τ hl ⟨hK, hKn⟩ hnext
    unfold bd_X1_pairsNotPrevented_4
    obtain ⟨x, σ1, e1, k1, kn1, hx⟩ := L_preventedIn hT (h.keepR hK) hKn hl
    rw [if_neg (show ¬ (6 : Int32) ≤ nI l from nI_ge hl (by decide)), L_stopsOf hT (h.keepR hK).1 hl, Option.bind_some, e1]
    simp only [bind2, Option.bind_some, letb]
    rw [Int32_bits (stopS_lt n T l), bc_all _ (mask_lt 12 _), Option.bind_some, nI_add, nI_1]
    have hstep := hnext σ1 ⟨hK.trans k1, kn1⟩
    try dsimp only at hstep
    rw [sumN] at hstep
    have e2 : pc (mask 12 fun k => (stopS n T l).testBit k && !x.toBitVec.getLsbD k) = sumN (fun s => b2n (leakP n T s l)) 12 := by
      rw [pc_sum]
      refine sumN_congr fun s hs => ?_
      rw [mask_bit, decide_eq_true hs, Bool.true_and, hx s hs]
      show b2n _ = b2n ((stopS n T l).testBit s && (prevS n T s l == none))
      unfold prevS
      rw [fnd_any]
    rw [e2]
    exact hstep
  · intro rec τ ⟨hK, hKn⟩
    unfold bd_X1_pairsNotPrevented_4
    rw [if_pos (show (6 : Int32) ≤ nI 6 from nI_le (Nat.le_refl 6) (by decide))]
    exact ⟨τ, rfl, hK, hKn⟩
