/-! 23: regions -/
theorem gd_l {l1 l2 : List Nat} {i : Nat} (h : i < l1.length) : (l1 ++ l2).getD i 0 = l1.getD i 0 := by
  rw [List.getD_eq_getElem?_getD, List.getElem?_append_left h, ← List.getD_eq_getElem?_getD]
theorem gd_r {l1 : List Nat} {a : Nat} : (l1 ++ [a]).getD l1.length 0 = a := by
  rw [List.getD_eq_getElem?_getD, List.getElem?_append_right (Nat.le_refl _)]; simp
theorem b2iF : b2i false = 0 := rfl
theorem b2iT : ¬ b2i true = 0 := by decide
theorem ob_ne {o : Option Nat} (h : ¬ o = none) : (o == none) = false := by
  cases o with
  | none => exact absurd rfl h
  | some _ => rfl
theorem loop_rel {F A R : Type} {body : F → F} {bot : F} (ap : Nat → A → F → R) (m : Nat) (I : Nat → A → Prop) (Post : R → Prop)
    (hstep : ∀ rec i x, i < m → I i x → (∀ x', I (i + 1) x' → Post (ap (i + 1) x' rec)) → Post (ap i x (body rec))) (hend : ∀ rec x, I m x → Post (ap m x (body rec))) :
    ∀ k i x, i ≤ m → m < k + i → I i x → Post (ap i x (loopF k body bot)) := by
  intro k
  induction k with
  | zero => intro i x h1 h2; omega
  | succ k ih =>
    intro i x h1 h2 hI
    show Post (ap i x (body (loopF k body bot)))
    rcases Nat.lt_or_ge i m with h | h
    · exact hstep _ i x h hI fun x' hx' => ih (i + 1) x' (by omega) (by omega) hx'
    · have : i = m := by omega
      subst this
      exact hend _ x hI
def isReg (n : Nat) (T : TT) (a : Nat) : Bool := decide (0 < a) && decide (a < 2 ^ n - 1) && (mixS T a == none)
/-- the regions below m -/
def RT (n : Nat) (T : TT) (m : Nat) : List Nat := (List.range m).filter (isReg n T)
def RgL (n : Nat) (T : TT) : List Nat := RT n T (2 ^ n - 1)
def rg (n : Nat) (T : TT) (k : Nat) : Nat := (RgL n T).getD k 0
theorem RT_succ {n : Nat} {T : TT} {m : Nat} : RT n T (m + 1) = if isReg n T m then RT n T m ++ [m] else RT n T m := by
  unfold RT
  rw [List.range_succ, List.filter_append]
  cases h : isReg n T m with
  | true => rw [if_pos rfl, List.filter_cons_of_pos (by rw [h])]; rfl
  | false => rw [if_neg (by decide), List.filter_cons_of_neg (by rw [h]; decide)]; simp
theorem RT_1 {n : Nat} {T : TT} : RT n T 1 = [] := by
  rw [show (1 : Nat) = 0 + 1 from rfl, RT_succ]
  have : isReg n T 0 = false := by simp [isReg]
  rw [this]; rfl
theorem RT_len {n : Nat} {T : TT} : ∀ m, (RT n T (m + 1)).length ≤ m
  | 0 => by rw [RT_1]; exact Nat.le_refl _
  | m + 1 => by
    have := RT_len (n := n) (T := T) m
    rw [RT_succ]
    split
    · rw [List.length_append]; simp; omega
    · omega
theorem p12 {n : Nat} {T : TT} (hT : Sys n T) : 2 ≤ 2 ^ n ∧ 2 ^ n ≤ 4096 := by
  have h1 : 2 ^ 1 ≤ 2 ^ n := Nat.pow_le_pow_right (by decide) hT.1
  have h2 : 2 ^ n ≤ 2 ^ 12 := Nat.pow_le_pow_right (by decide) hT.2.1
  omega
theorem RgL_len {n : Nat} {T : TT} (hT : Sys n T) : (RgL n T).length ≤ 4094 := by
  have := p12 hT
  have h := RT_len (n := n) (T := T) (2 ^ n - 2)
  rw [show 2 ^ n - 2 + 1 = 2 ^ n - 1 by omega] at h
  unfold RgL
  omega
theorem rg_mem {n : Nat} {T : TT} {k : Nat} (hk : k < (RgL n T).length) : rg n T k ∈ RgL n T := by
  unfold rg
  rw [List.getD_eq_getElem?_getD, List.getElem?_eq_getElem hk]
  exact List.getElem_mem hk
theorem RgL_mem {n : Nat} {T : TT} {a : Nat} : a ∈ RgL n T ↔ isReg n T a = true := by
  unfold RgL RT
  rw [List.mem_filter, List.mem_range]
  constructor
  · exact fun h => h.2
  · intro h
    refine ⟨?_, h⟩
    simp [isReg] at h
    omega
theorem isReg_lt {n : Nat} {T : TT} (hT : Sys n T) {a : Nat} (h : isReg n T a = true) : 0 < a ∧ a < 2 ^ n ∧ a < 2 ^ 12 := by
  have := p12 hT
  simp [isReg] at h
  omega
theorem rg_lt {n : Nat} {T : TT} (hT : Sys n T) {k : Nat} (hk : k < (RgL n T).length) : rg n T k < 2 ^ 12 := (isReg_lt hT (RgL_mem.mp (rg_mem hk))).2.2
/-- the list of the regions, as the class has it -/
def RegD (σ : SX) (L : List Nat) : Prop := σ.1 1 = nI L.length ∧ ∀ i, i < L.length → σ.2 8 i = nI (L.getD i 0)
def KeepR (σ σ' : SX) : Prop := (∀ k, k ≠ 1 → k ≠ 2 → σ'.1 k = σ.1 k) ∧ ∀ a, a ≠ 8 → σ'.2 a = σ.2 a
theorem KeepR.rf {σ : SX} : KeepR σ σ := ⟨fun _ _ _ => rfl, fun _ _ => rfl⟩
theorem KeepR.trans {σ σ' σ'' : SX} (h1 : KeepR σ σ') (h2 : KeepR σ' σ'') : KeepR σ σ'' := ⟨fun k a b => (h2.1 k a b).trans (h1.1 k a b), fun a b => (h2.2 a b).trans (h1.2 a b)⟩
theorem EB.keepR {σ σ' : SX} {n : Nat} {T : TT} (h : EB σ n T) (hk : KeepR σ σ') : EB σ' n T := by
  refine ⟨by rw [hk.1 0 (by decide) (by decide)]; exact h.1, fun l s hl hs => ?_, fun l hl => ?_⟩
  · rw [hk.2 _ (by omega)]; exact h.2.1 l s hl hs
  · rw [hk.2 _ (by omega)]; exact h.2.2 l hl
theorem StOk.keepR {σ σ' : SX} {n : Nat} {T : TT} (h : StOk σ n T) (hk : KeepR σ σ') : StOk σ' n T :=
  ⟨h.1.keepR hk, fun l hl => (h.2 l hl).moved (hk.2 _ (by omega)) (hk.2 _ (by omega)) (fun _ => rfl)⟩
theorem ss_self {σ : SX} {k : Nat} {v : Int32} : (ss σ k v).1 k = v := by simp [ss, upd]
theorem ss_ne {σ : SX} {k j : Nat} {v : Int32} (h : j ≠ k) : (ss σ k v).1 j = σ.1 j := by simp [ss, upd, h]
theorem ss2 {σ : SX} {k : Nat} {v : Int32} : (ss σ k v).2 = σ.2 := rfl
theorem enc_n (o : Option Nat) (h : ∀ t, o = some t → t < 2 ^ 31) : enc o = -1 ↔ o = none := by
  cases o with
  | none => simp [enc]
  | some t => simp only [enc, reduceCtorEq, iff_false]; exact i_neg1 (h t rfl)
theorem mix_n {T : TT} {a : Nat} : enc (mixS T a) = -1 ↔ mixS T a = none := enc_n _ fun t h => by have := mixS_lt h; omega
theorem L_search {σ : SX} {n : Nat} {T : TT} (hT : Sys n T) (h : StOk σ n T) : ∃ σ', fn_X1_search σ = some σ' ∧ KeepR σ σ' ∧ σ'.1 2 = σ.1 2 ∧ RegD σ' (RgL n T) := by
  have hp := p12 hT
  unfold fn_X1_search
  have k1 : KeepR σ (ss σ 1 0) := ⟨fun k a _ => ss_ne a, fun _ _ => rfl⟩
  have e1 := L_all hT (h.1.keepR k1)
  simp only [letb]
  rw [e1, Option.bind_some]
  refine loop_rel (body := bd_X1_search_15 (nI (2 ^ n - 1))) (bot := fun _ _ => none) (fun i (τ : SX) g => g (nI i) τ) (2 ^ n - 1) (fun i τ => 1 ≤ i ∧ KeepR σ τ ∧ τ.1 2 = σ.1 2 ∧ RegD τ (RT n T i)) (fun o => ∃ σ', o = some σ' ∧ KeepR σ σ' ∧ σ'.1 2 = σ.1 2 ∧ RegD σ' (RgL n T)) ?_ ?_ FU 1 (ss σ 1 0) (by omega) (by unfold FU; omega) ⟨Nat.le_refl 1, k1, ss_ne (by decide), ?_⟩
  · intro rec i τ hi ⟨hi1, hK, h2, hR⟩ hnext
    show ∃ σ', bd_X1_search_15 _ rec (nI i) τ = some σ' ∧ _
    unfold bd_X1_search_15
    have hτ := h.keepR hK
    have hlen : (RT n T i).length ≤ i - 1 := by
      have := RT_len (n := n) (T := T) (i - 1)
      rw [show i - 1 + 1 = i by omega] at this
      exact this
    rw [if_neg (nI_ge hi (by omega)), L_firstMixed hτ (by omega), Option.bind_some]
    simp only [letb]
    rw [nI_1]
    have hr : isReg n T i = (mixS T i == none) := by
      unfold isReg
      rw [decide_eq_true (show 0 < i by omega), decide_eq_true hi]; rfl
    by_cases c : mixS T i = none
    · rw [if_neg (fun q => q (mix_n.mpr c)), hR.1, if_neg (show ¬ (4094 : Int32) ≤ nI _ from nI_ge (b := 4094) (by omega) (by decide)), as_nI (by omega) (by decide), Option.bind_some]
      refine hnext _ ⟨by omega, ⟨fun k a b => ?_, fun a b => ?_⟩, ?_, ?_, ?_⟩
      · rw [ss_ne a, sa1]; exact hK.1 k a b
      · rw [ss2, sa2 b]; exact hK.2 a b
      · rw [ss_ne (by decide), sa1]; exact h2
      · rw [ss_self, sa1, hR.1, nI_1, RT_succ, hr, if_pos (by rw [c]; rfl)]; simp
      · rw [RT_succ, hr, if_pos (by rw [c]; rfl)]
        intro j hj
        rw [List.length_append] at hj
        simp at hj
        rw [ss2, sa_self]
        by_cases e : j = (RT n T i).length
        · rw [if_pos e, e, gd_r]
        · rw [if_neg e, hR.2 j (by omega), gd_l (by omega)]
    · rw [if_pos (fun q => c (mix_n.mp q))]
      refine hnext τ ⟨by omega, hK, h2, ?_⟩
      rw [RT_succ, hr, if_neg (by simpa using c)]
      exact hR
  · intro rec τ ⟨hi1, hK, h2, hR⟩
    show ∃ σ', bd_X1_search_15 _ rec _ τ = some σ' ∧ _
    unfold bd_X1_search_15
    rw [if_pos (nI_le (Nat.le_refl _) (by omega))]
    exact ⟨τ, rfl, hK, h2, hR⟩
  · rw [RT_1]
    exact ⟨ss_self, fun i hi => by simp at hi⟩
def Known (σ : SX) (n : Nat) (T : TT) : Prop := σ.1 2 = 0 ∨ (σ.1 2 = 1 ∧ RegD σ (RgL n T))
theorem L_count {σ : SX} {n : Nat} {T : TT} (hT : Sys n T) (h : StOk σ n T) (hk : Known σ n T) :
    ∃ σ', fn_X1_count σ = some (nI (RgL n T).length, σ') ∧ KeepR σ σ' ∧ σ'.1 2 = 1 ∧ RegD σ' (RgL n T) := by
  unfold fn_X1_count
  simp only [letb]
  rcases hk with hk | ⟨hk, hR⟩
  · rw [if_neg (fun q => q hk)]
    obtain ⟨σ1, e1, k1, h2, hR⟩ := L_search hT h
    rw [e1, Option.bind_some]
    refine ⟨ss σ1 2 1, by rw [ss_ne (by decide), hR.1], ⟨fun k a b => by rw [ss_ne b]; exact k1.1 k a b, fun a b => k1.2 a b⟩, ss_self, ?_, fun i hi => hR.2 i hi⟩
    rw [ss_ne (by decide)]; exact hR.1
  · rw [if_pos (show ¬ σ.1 2 = 0 by rw [hk]; decide)]
    exact ⟨σ, by rw [hR.1], KeepR.rf, hk, hR⟩
theorem L_at {σ : SX} {n : Nat} {T : TT} (hT : Sys n T) (hR : RegD σ (RgL n T)) {k : Nat} (hk : k < (RgL n T).length) : fn_X1_at σ (nI k) = some (nI (rg n T k)) := by
  unfold fn_X1_at
  have := RgL_len hT
  rw [ag_nI (by omega) (by decide), Option.bind_some, hR.2 k hk]; rfl
/-- a is a part of b -/
def sub (a b : Nat) : Bool := ndf a b == 0
def leastS (n : Nat) (T : TT) (k : Nat) : Bool := (fnd k fun j => sub (rg n T j) (rg n T k)) == none
theorem i_sub {a b : Nat} (ha : a < 2 ^ 31) (hb : b < 2 ^ 31) : (nI a &&& (nI b ^^^ (-1))) = 0 ↔ sub a b = true := by
  rw [i_ndf ha hb, nI_z (ndf_lt ha), sub, beq_iff_eq]
theorem L_hasNoPart {σ : SX} {n : Nat} {T : TT} (hT : Sys n T) (hR : RegD σ (RgL n T)) {k : Nat} (hk : k < (RgL n T).length) : fn_X1_hasNoPart σ (nI k) = some (b2i (leastS n T k)) := by
  unfold fn_X1_hasNoPart
  simp only [letb]
  have hlen := RgL_len hT
  have bk := rg_lt hT hk
  have e0 : ∀ j, j < (RgL n T).length → ag σ 8 4094 (nI j) = some (nI (rg n T j)) := fun j hj => by rw [ag_nI (by omega) (by decide), hR.2 j hj]; rfl
  have := loop_find (body := bd_X1_hasNoPart_2 σ (nI k)) (bot := fun _ => none) (fun i g => g (nI i)) k (fun j => sub (rg n T j) (rg n T k)) (fun _ => some 0) (some 1) (by unfold FU; omega)
    (fun rec i hi hp => by
      have bi := rg_lt hT (show i < (RgL n T).length by omega)
      unfold bd_X1_hasNoPart_2
      rw [if_neg (nI_ge hi (by omega)), e0 i (by omega), Option.bind_some, e0 k hk, Option.bind_some, if_pos (fun q => by rw [(i_sub (by omega) (by omega)).mp q] at hp; cases hp)]
      simp only [letb]
      rw [nI_1])
    (fun rec i hi hp => by
      have bi := rg_lt hT (show i < (RgL n T).length by omega)
      unfold bd_X1_hasNoPart_2
      rw [if_neg (nI_ge hi (by omega)), e0 i (by omega), Option.bind_some, e0 k hk, Option.bind_some, if_neg (fun q => q ((i_sub (by omega) (by omega)).mpr hp))]
      rfl)
    (fun rec => by
      unfold bd_X1_hasNoPart_2
      rw [if_pos (nI_le (Nat.le_refl k) (by omega))]
      rfl)
  refine Eq.trans this ?_
  unfold leastS
  cases fnd k (fun j => sub (rg n T j) (rg n T k)) <;> rfl
def apartS (n : Nat) (T : TT) (a b : Nat) : Option Nat := fnd (RgL n T).length fun k => (rg n T k).testBit a != (rg n T k).testBit b
theorem enc_fnd {N : Nat} {p : Nat → Bool} {o : Option Int32} (h : o = match fnd N p with
    | some i => some (nI i)
    | none => some (-1)) : o = some (enc (fnd N p)) := by
  rw [h]
  cases fnd N p <;> rfl
theorem b2i_eq {a b : Bool} : b2i a = b2i b ↔ a = b := by cases a <;> cases b <;> decide
theorem L_firstApart {σ : SX} {n : Nat} {T : TT} (hT : Sys n T) (h : StOk σ n T) (hk : Known σ n T) {a b : Nat} (ha : a < 12) (hb : b < 12) :
    ∃ σ', fn_X1_firstApart σ (nI a) (nI b) = some (enc (apartS n T a b), σ') ∧ KeepR σ σ' ∧ σ'.1 2 = 1 ∧ RegD σ' (RgL n T) := by
  obtain ⟨σ1, e1, k1, h2, hR⟩ := L_count hT h hk
  refine ⟨σ1, ?_, k1, h2, hR⟩
  unfold fn_X1_firstApart bind2
  rw [e1]
  simp only [Option.bind_some, letb]
  have hlen := RgL_len hT
  have e0 : ∀ j, j < (RgL n T).length → ag σ1 8 4094 (nI j) = some (nI (rg n T j)) := fun j hj => by rw [ag_nI (by omega) (by decide), hR.2 j hj]; rfl
  have := loop_find (body := bd_X1_firstApart_8 (nI a) (nI b) σ1 (nI (RgL n T).length)) (bot := fun _ => none) (fun i g => g (nI i)) (RgL n T).length (fun k => (rg n T k).testBit a != (rg n T k).testBit b) (fun i => some (nI i, σ1)) (some (-1, σ1)) (by unfold FU; omega)
    (fun rec i hi hp => by
      have bi := rg_lt hT hi
      unfold bd_X1_firstApart_8
      rw [if_neg (nI_ge hi (by omega)), e0 i hi, Option.bind_some, L_has (by omega) (by omega), Option.bind_some, Option.bind_some, L_has (by omega) (by omega), Option.bind_some, if_pos (b2i_eq.mpr (by simpa using hp))]
      simp only [letb]
      rw [nI_1])
    (fun rec i hi hp => by
      have bi := rg_lt hT hi
      unfold bd_X1_firstApart_8
      rw [if_neg (nI_ge hi (by omega)), e0 i hi, Option.bind_some, L_has (by omega) (by omega), Option.bind_some, Option.bind_some, L_has (by omega) (by omega), Option.bind_some, if_neg (fun q => by rw [b2i_eq.mp q] at hp; simp at hp)])
    (fun rec => by
      unfold bd_X1_firstApart_8
      rw [if_pos (nI_le (Nat.le_refl _) (by omega))])
  refine Eq.trans this ?_
  unfold apartS
  cases fnd (RgL n T).length (fun k => (rg n T k).testBit a != (rg n T k).testBit b) <;> rfl
def prevP (T : TT) (r s l : Nat) : Bool := if r.testBit s then wayS T l r == 1 else wayS T l r == 2
def prevS (n : Nat) (T : TT) (s l : Nat) : Option Nat := fnd (RgL n T).length fun k => prevP T (rg n T k) s l
theorem L_isOne {σ : SX} {n : Nat} {T : TT} (hT : Sys n T) (h : StOk σ n T) {a : Nat} (ha : a < 2 ^ n) : fn_X1_isOne σ (nI a) = some (b2i (isReg n T a)) := by
  have hp := p12 hT
  unfold fn_X1_isOne
  simp only [letb]
  unfold isReg
  by_cases c0 : a = 0
  · subst c0; rw [if_pos (show nI 0 = 0 from rfl)]; rfl
  · rw [if_neg (fun q => c0 ((nI_z (by omega)).mp q)), L_all hT h.1, Option.bind_some]
    by_cases c1 : a = 2 ^ n - 1
    · rw [if_pos (congrArg nI c1), decide_eq_false (show ¬ a < 2 ^ n - 1 by omega)]; simp; rfl
    · rw [if_neg (nI_ne (by omega) (by omega) c1), L_firstMixed h (by omega), Option.bind_some, decide_eq_true (show 0 < a by omega), decide_eq_true (show a < 2 ^ n - 1 by omega)]
      by_cases c2 : mixS T a = none
      · rw [if_neg (fun q => q (mix_n.mpr c2)), c2]; rfl
      · rw [if_pos (fun q => c2 (mix_n.mp q)), ob_ne c2]; rfl
