/-! 22: what Steps stores -/
/-- a system with one step more, or less -/
def upT (T : TT) (l s : Nat) (o : Option Nat) : TT := fun l' s' => if l' = l ∧ s' = s then o else T l' s'
theorem upT_self {T : TT} {l s : Nat} {o : Option Nat} : upT T l s o l s = o := if_pos ⟨rfl, rfl⟩
theorem upT_ne {T : TT} {l s l' s' : Nat} {o : Option Nat} (h : ¬ (l' = l ∧ s' = s)) : upT T l s o l' s' = T l' s' := if_neg h
theorem src_congr {T T' : TT} {l : Nat} {P P' : Nat → Bool} (h : ∀ s, s < 12 → tob (T l s) P = tob (T' l s) P') : src T l P = src T' l P' := mask_congr h
theorem src_upT_ne {T : TT} {l l' s : Nat} {o : Option Nat} {P : Nat → Bool} (h : l' ≠ l) : src (upT T l s o) l' P = src T l' P := src_congr fun k _ => by rw [upT_ne (fun q => h q.1)]
theorem Sys.upT {n : Nat} {T : TT} (h : Sys n T) {l s : Nat} {o : Option Nat} (hl : l < 6) (hs : s < n) (ho : ∀ t, o = some t → t < n) : Sys n (upT T l s o) := by
  refine ⟨h.1, h.2.1, fun l' s' t e => ?_⟩
  by_cases c : l' = l ∧ s' = s
  · obtain ⟨rfl, rfl⟩ := c
    rw [upT_self] at e
    exact ⟨hl, hs, ho t e⟩
  · rw [upT_ne c] at e
    exact h.2.2 l' s' t e
/-- what storing a step keeps: the whole numbers, and all arrays but ends and begins -/
def KeepE (σ σ' : SX) : Prop := σ'.1 = σ.1 ∧ ∀ a, a ≠ 5 → ¬ (13 ≤ a ∧ a < 19) → σ'.2 a = σ.2 a
theorem sa2 {σ : SX} {a b i : Nat} {v : Int32} (h : b ≠ a) : (sa σ a i v).2 b = σ.2 b := by simp [sa, h]
theorem sa1 {σ : SX} {a i : Nat} {v : Int32} : (sa σ a i v).1 = σ.1 := rfl
theorem L_setEnd {σ : SX} {n : Nat} {T : TT} (hT : Sys n T) (h : EB σ n T) {l s : Nat} {o : Option Nat} (hl : l < 6) (hs : s < n) (ho : ∀ t, o = some t → t < n) :
    ∃ σ', fn_X2_setEnd σ (nI s) (nI l) (enc o) = some σ' ∧ EB σ' n (upT T l s o) ∧ KeepE σ σ' := by
  have hn := hT.2.1
  unfold fn_X2_setEnd
  rw [arow_nI hl, Option.bind_some, as_nI (by omega) (by decide), Option.bind_some]
  simp only [letb]
  have hb : (sa σ (13 + l) s (enc o)).2 5 l = nI (src T l fun _ => true) := by rw [sa_ne (by omega)]; exact h.2.2 l hl
  have hE : ∀ (v : Int32) (l' s' : Nat), l' < 6 → s' < 12 → (sa (sa σ (13 + l) s (enc o)) 5 l v).2 (13 + l') s' = enc (upT T l s o l' s') := by
    intro v l' s' hl' hs'
    rw [sa_ne (by omega)]
    by_cases c : l' = l
    · subst c
      rw [sa_self]
      by_cases c2 : s' = s
      · subst c2; rw [if_pos rfl, upT_self]
      · rw [if_neg c2, upT_ne (fun q => c2 q.2)]; exact h.2.1 l' s' hl' hs'
    · rw [sa_ne (by omega), upT_ne (fun q => c q.1)]; exact h.2.1 l' s' hl' hs'
  have hB : ∀ (v : Int32), v = nI (src (upT T l s o) l fun _ => true) → ∀ l', l' < 6 → (sa (sa σ (13 + l) s (enc o)) 5 l v).2 5 l' = nI (src (upT T l s o) l' fun _ => true) := by
    intro v hv l' hl'
    rw [sa_self]
    by_cases c : l' = l
    · subst c; rw [if_pos rfl, hv]
    · rw [if_neg c, sa_ne (by omega), src_upT_ne c]; exact h.2.2 l' hl'
  have hK : ∀ v, KeepE σ (sa (sa σ (13 + l) s (enc o)) 5 l v) := fun v => ⟨rfl, fun a h1 h2 => by rw [sa2 h1, sa2 (by omega)]⟩
  cases o with
  | none =>
    rw [if_neg (show ¬ ¬ enc none = -1 from fun q => q rfl), ag_nI hl (by decide), Option.bind_some, as_nI hl (by decide), Option.bind_some]
    refine ⟨_, rfl, ⟨h.1, hE _, hB _ ?_⟩, hK _⟩
    rw [hb, i_shl (by omega), i_ndf (src_lt' _ _ _) (Nat.pow_lt_pow_right (by decide) (by omega))]
    congr 1
    rw [src, mask_ndf, src]
    refine mask_congr fun k _ => ?_
    rw [Nat.testBit_two_pow]
    by_cases c : k = s
    · subst c; rw [upT_self, decide_eq_true rfl]; simp [tob]
    · rw [upT_ne (fun q => c q.2), decide_eq_false (Ne.symm c)]; simp
  | some t =>
    have ht := ho t rfl
    rw [if_pos (show ¬ enc (some t) = -1 from i_neg1 (by omega)), ag_nI hl (by decide), Option.bind_some, as_nI hl (by decide), Option.bind_some]
    refine ⟨_, rfl, ⟨h.1, hE _, hB _ ?_⟩, hK _⟩
    rw [hb, src, mask_add (by omega) (by decide), src]
    congr 1
    refine mask_congr fun k _ => ?_
    by_cases c : k = s
    · subst c; rw [upT_self]; simp [tob]
    · rw [upT_ne (fun q => c q.2)]; simp [c]
theorem L_bst {σ : SX} {n : Nat} {T : TT} (hT : Sys n T) (h : EB σ n T) {l t : Nat} (hl : l < 6) (ht : t < 12) : fn_X2_beginsOfStepsTo σ (nI t) (nI l) = some (nI (src T l fun x => x == t)) := by
  unfold fn_X2_beginsOfStepsTo
  simp only [letb]
  have hn := hT.2.1
  have := loop_0m (body := bd_X2_beginsOfStepsTo_5 σ (nI t) (nI l)) (bot := fun _ _ => none) (fun i g => g (nI (mask i (fun s => tob (T l s) fun x => x == t))) (nI i)) n (some (nI (src T l fun x => x == t))) (by unfold FU; omega)
    (fun rec i hi => by
      unfold bd_X2_beginsOfStepsTo_5
      rw [h.1, if_neg (nI_ge hi (by omega)), arow_nI hl, Option.bind_some, ag_nI (by omega) (by decide), Option.bind_some, h.2.1 l i hl (by omega)]
      simp only [letb]
      rw [nI_1]
      by_cases c : T l i = some t
      · rw [if_neg (fun q => q ((enc_eq hT (by omega)).mpr c)), mask_step (by omega) (by rw [c]; simp [tob])]
      · rw [if_pos (fun q => c ((enc_eq hT (by omega)).mp q)), mask_skip]
        cases e : T l i with
        | none => rfl
        | some u =>
          rw [e] at c
          simpa [tob] using c)
    (fun rec => by
      unfold bd_X2_beginsOfStepsTo_5
      rw [h.1, if_pos (nI_le (Nat.le_refl n) (by omega))]
      congr 2
      apply Nat.eq_of_testBit_eq
      intro k
      rw [src, mask_bit, mask_bit]
      by_cases hk : k < n
      · rw [decide_eq_true hk, decide_eq_true (show k < 12 by omega)]
      · rw [hT.none (show n ≤ k by omega)]; simp [tob])
  exact this
/-- what filling a table of sources keeps: all but that table -/
def KeepA (a0 : Nat) (σ σ' : SX) : Prop := σ'.1 = σ.1 ∧ ∀ a, a ≠ a0 → σ'.2 a = σ.2 a
theorem KeepA.trans {a0 : Nat} {σ σ' σ'' : SX} (h1 : KeepA a0 σ σ') (h2 : KeepA a0 σ' σ'') : KeepA a0 σ σ'' := ⟨h2.1.trans h1.1, fun a h => (h2.2 a h).trans (h1.2 a h)⟩
theorem EB.keepA {σ σ' : SX} {n a0 : Nat} {T : TT} (h : EB σ n T) (hk : KeepA a0 σ σ') (ha : 19 ≤ a0) : EB σ' n T := by
  refine ⟨by rw [hk.1]; exact h.1, fun l s hl hs => ?_, fun l hl => ?_⟩
  · rw [hk.2 _ (by omega)]; exact h.2.1 l s hl hs
  · rw [hk.2 _ (by omega)]; exact h.2.2 l hl
/-- the entries of a table of sources -/
def ent (T : TT) (l f a : Nat) : Nat := src T l fun t => decide (f ≤ t) && decide (t < f + 6) && a.testBit (t - f)
theorem ent_0 (T : TT) (l f : Nat) : ent T l f 0 = 0 := by
  unfold ent src
  refine Eq.trans (mask_congr fun k _ => ?_) mask_0
  cases T l k <;> simp [tob]
theorem ent_or {T : TT} {l f k a : Nat} (hk : k < 6) (ha : a < 2 ^ k) : ent T l f (2 ^ k + a) = ent T l f a ||| src T l fun x => x == f + k := by
  unfold ent src
  rw [mask_or]
  refine mask_congr fun s _ => ?_
  cases T l s with
  | none => rfl
  | some t =>
    show (decide (f ≤ t) && decide (t < f + 6) && (2 ^ k + a).testBit (t - f)) = (decide (f ≤ t) && decide (t < f + 6) && a.testBit (t - f) || t == f + k)
    by_cases h1 : f ≤ t ∧ t < f + 6
    · rw [decide_eq_true h1.1, decide_eq_true h1.2]
      simp only [Bool.true_and]
      by_cases h2 : t - f = k
      · rw [h2, Nat.testBit_two_pow_add_eq, bit_hi ha (Nat.le_refl k)]
        simp; omega
      · have h3 : (t == f + k) = false := by simp; omega
        rw [h3, Bool.or_false]
        rcases Nat.lt_or_ge (t - f) k with g | g
        · rw [Nat.testBit_two_pow_add_gt g]
        · have : 2 ^ k + a < 2 ^ (k + 1) := by rw [Nat.pow_succ]; omega
          rw [bit_hi this (by omega), bit_hi ha g]
    · have h3 : (t == f + k) = false := by simp; omega
      rw [h3]
      have : (decide (f ≤ t) && decide (t < f + 6)) = false := by
        rw [Bool.eq_false_iff]; simp; omega
      rw [this]; simp
theorem L_learnHalf {σ : SX} {n : Nat} {T : TT} (hT : Sys n T) (h : EB σ n T) {l f a : Nat} (hl : l < 6) (hf : f ≤ 6) (ha : 19 ≤ a) (h0 : σ.2 a 0 = 0) :
    ∃ σ', fn_X2_learnHalf σ (nI l) (nI f) a = some σ' ∧ KeepA a σ σ' ∧ ∀ q, q < 64 → σ'.2 a q = nI (ent T l f q) := by
  unfold fn_X2_learnHalf
  simp only [letb]
  -- the outer loop, from k on
  have main : ∀ (d k : Nat), k + d = 6 → ∀ (fu : Nat), d < fu → ∀ (τ : SX), KeepA a σ τ → (∀ q, q < 2 ^ k → τ.2 a q = nI (ent T l f q)) →
      ∃ σ', loopF fu (bd_X2_learnHalf_3 (nI l) (nI f) a) (fun _ _ => none) (nI k) τ = some σ' ∧ KeepA a σ σ' ∧ ∀ q, q < 64 → σ'.2 a q = nI (ent T l f q) := by
    intro d
    induction d with
    | zero =>
      intro k hk fu hfu τ hK hq
      obtain ⟨fu, rfl⟩ : ∃ z, fu = z + 1 := ⟨fu - 1, by omega⟩
      have : k = 6 := by omega
      subst this
      refine ⟨τ, ?_, hK, hq⟩
      show bd_X2_learnHalf_3 _ _ _ _ _ _ = _
      rw [bd_X2_learnHalf_3]
      rw [if_pos (show (6 : Int32) ≤ nI 6 from nI_le (Nat.le_refl 6) (by decide))]
    | succ d ih =>
      intro k hk fu hfu τ hK hq
      obtain ⟨fu, rfl⟩ : ∃ z, fu = z + 1 := ⟨fu - 1, by omega⟩
      have hk6 : k < 6 := by omega
      have hpk : 2 ^ k ≤ 32 := Nat.pow_le_pow_right (n := 2) (by decide) (show k ≤ 5 by omega)
      show ∃ σ', bd_X2_learnHalf_3 _ _ _ (loopF fu _ _) _ _ = some σ' ∧ _
      rw [bd_X2_learnHalf_3]
      rw [if_neg (show ¬ (6 : Int32) ≤ nI k from nI_ge hk6 (by decide)), nI_add, L_bst hT (h.keepA hK ha) hl (by omega), Option.bind_some]
      simp only [letb]
      rw [i_shl (by omega)]
      -- the inner loop, from j on
      have inner : ∀ (e j : Nat), j + e = 2 ^ k → ∀ (fv : Nat), e < fv → ∀ (ρ : SX), KeepA a σ ρ → (∀ q, q < 2 ^ k + j → ρ.2 a q = nI (ent T l f q)) →
          ∃ σ', loopF fv (bd_X2_learnHalf_30 a (loopF fu (bd_X2_learnHalf_3 (nI l) (nI f) a) (fun _ _ => none)) (nI k) (nI (src T l fun x => x == f + k)) (nI (2 ^ k))) (fun _ _ => none) (nI j) ρ = some σ' ∧ KeepA a σ σ' ∧ ∀ q, q < 64 → σ'.2 a q = nI (ent T l f q) := by
        intro e
        induction e with
        | zero =>
          intro j hj fv hfv ρ hKρ hqρ
          obtain ⟨fv, rfl⟩ : ∃ z, fv = z + 1 := ⟨fv - 1, by omega⟩
          show ∃ σ', bd_X2_learnHalf_30 _ _ _ _ _ _ _ _ = some σ' ∧ _
          rw [bd_X2_learnHalf_30]
          rw [if_pos (nI_le (by omega) (by omega))]
          simp only [letb]
          rw [nI_1]
          exact ih (k + 1) (by omega) fu (by omega) ρ hKρ (fun q hq2 => hqρ q (by rw [Nat.pow_succ] at hq2; omega))
        | succ e ihe =>
          intro j hj fv hfv ρ hKρ hqρ
          obtain ⟨fv, rfl⟩ : ∃ z, fv = z + 1 := ⟨fv - 1, by omega⟩
          show ∃ σ', bd_X2_learnHalf_30 _ _ _ _ _ (loopF fv _ _) _ _ = some σ' ∧ _
          rw [bd_X2_learnHalf_30]
          have hjk : j < 2 ^ k := by omega
          have e1 : 2 ^ k ||| j = 2 ^ k + j := by
            have := Nat.two_pow_add_eq_or_of_lt hjk 1
            rw [Nat.mul_one] at this
            exact this.symm
          rw [if_neg (nI_ge hjk (by omega)), ag_nI (by omega) (by decide), Option.bind_some, i_or (by omega) (by omega), e1, hqρ j (by omega), as_nI (by omega) (by decide), Option.bind_some]
          simp only [letb]
          rw [nI_1]
          refine ihe (j + 1) (by omega) fv (by omega) (sa ρ a (2 ^ k + j) (nI (ent T l f j) ||| nI (src T l fun x => x == f + k))) ⟨hKρ.1, fun b hb => by rw [sa2 hb]; exact hKρ.2 b hb⟩ (fun q hq2 => ?_)
          rw [sa_self]
          by_cases c : q = 2 ^ k + j
          · subst c
            rw [if_pos rfl, ent_or hk6 hjk]; exact i_or (src_lt' _ _ _) (src_lt' _ _ _)
          · rw [if_neg c]; exact hqρ q (by omega)
      exact inner (2 ^ k) 0 (by omega) FU (by unfold FU; omega) τ hK (fun q hq2 => hq q (by omega))
  exact main 6 0 rfl FU (by decide) σ ⟨rfl, fun _ _ => rfl⟩ (fun q hq => by
    have : q = 0 := by omega
    subst this
    rw [h0, ent_0]; rfl)
theorem LH_of {σ : SX} {T : TT} {l : Nat} (h1 : ∀ q, q < 64 → σ.2 (19 + l) q = nI (ent T l 0 q)) (h2 : ∀ q, q < 64 → σ.2 (25 + l) q = nI (ent T l 6 q)) (hT : ∀ s t, T l s = some t → t < 12) : LH σ T l := by
  refine ⟨fun a ha => ?_, fun a ha => ?_⟩
  · rw [h1 a ha]
    refine congrArg nI (src_congr fun s _ => ?_)
    cases T l s <;> simp [tob]
  · rw [h2 a ha]
    refine congrArg nI (src_congr fun s _ => ?_)
    cases e : T l s with
    | none => rfl
    | some t =>
      have := hT s t e
      simp only [tob]
      rw [decide_eq_true (show t < 6 + 6 by omega), Bool.and_true]
/-- what storing a step keeps altogether -/
def KeepS (σ σ' : SX) : Prop := σ'.1 = σ.1
theorem LH0 {σ : SX} {T : TT} {l : Nat} (h : LH σ T l) : σ.2 (19 + l) 0 = 0 ∧ σ.2 (25 + l) 0 = 0 := by
  constructor
  · rw [h.1 0 (by decide)]
    have : (src T l fun t => decide (t < 6) && (0 : Nat).testBit t) = 0 := by
      refine Eq.trans (mask_congr fun k _ => ?_) mask_0
      cases T l k <;> simp [tob]
    rw [this]; rfl
  · rw [h.2 0 (by decide)]
    have : (src T l fun t => decide (6 ≤ t) && (0 : Nat).testBit (t - 6)) = 0 := by
      refine Eq.trans (mask_congr fun k _ => ?_) mask_0
      cases T l k <;> simp [tob]
    rw [this]; rfl
theorem L_learnSources {σ : SX} {n : Nat} {T : TT} (hT : Sys n T) (h : EB σ n T) {l : Nat} (hl : l < 6) (h0 : σ.2 (19 + l) 0 = 0 ∧ σ.2 (25 + l) 0 = 0) :
    ∃ σ', fn_X2_learnSources σ (nI l) = some σ' ∧ EB σ' n T ∧ LH σ' T l ∧ σ'.1 = σ.1 ∧ ∀ a, a ≠ 19 + l → a ≠ 25 + l → σ'.2 a = σ.2 a := by
  unfold fn_X2_learnSources
  have hn := hT.2.1
  rw [arow_nI hl, Option.bind_some]
  obtain ⟨σ1, e1, k1, q1⟩ := L_learnHalf hT h hl (f := 0) (a := 19 + l) (by omega) (by omega) h0.1
  have h1 := h.keepA k1 (by omega)
  obtain ⟨σ2, e2, k2, q2⟩ := L_learnHalf hT h1 hl (f := 6) (a := 25 + l) (by omega) (by omega) (by rw [k1.2 _ (by omega)]; exact h0.2)
  rw [show (0 : Int32) = nI 0 from rfl, e1, Option.bind_some, Option.bind_some, show (6 : Int32) = nI 6 from rfl, e2, Option.bind_some]
  refine ⟨σ2, rfl, h1.keepA k2 (by omega), LH_of (fun q hq => ?_) q2 (fun s t e => by have := (hT.2.2 l s t e).2.2; omega), k2.1.trans k1.1, fun a ha1 ha2 => (k2.2 a ha2).trans (k1.2 a ha1)⟩
  rw [k2.2 _ (by omega)]
  exact q1 q hq
theorem LH.moved {σ σ' : SX} {T T' : TT} {l : Nat} (h : LH σ T l) (h1 : σ'.2 (19 + l) = σ.2 (19 + l)) (h2 : σ'.2 (25 + l) = σ.2 (25 + l)) (hT : ∀ s, T' l s = T l s) : LH σ' T' l := by
  refine ⟨fun a ha => ?_, fun a ha => ?_⟩
  · rw [h1, h.1 a ha]
    congr 1
    exact src_congr fun s _ => by rw [hT]
  · rw [h2, h.2 a ha]
    congr 1
    exact src_congr fun s _ => by rw [hT]
theorem L_put {σ : SX} {n : Nat} {T : TT} (hT : Sys n T) (h : StOk σ n T) {l s : Nat} {o : Option Nat} (hl : l < 6) (hs : s < n) (ho : ∀ t, o = some t → t < n) :
    ∃ σ', fn_X2_put σ (nI s) (nI l) (enc o) = some σ' ∧ StOk σ' n (upT T l s o) ∧ σ'.1 = σ.1 := by
  unfold fn_X2_put
  obtain ⟨σ1, e1, h1, k1⟩ := L_setEnd hT h.1 hl hs ho
  obtain ⟨σ2, e2, h2, h3, h4, h5⟩ := L_learnSources (hT.upT hl hs ho) h1 hl (by rw [k1.2 _ (by omega) (by omega), k1.2 _ (by omega) (by omega)]; exact LH0 (h.2 l hl))
  rw [e1, Option.bind_some, e2, Option.bind_some]
  refine ⟨σ2, rfl, ⟨h2, fun l' hl' => ?_⟩, h4.trans k1.1⟩
  by_cases c : l' = l
  · subst c; exact h3
  · refine (h.2 l' hl').moved ?_ ?_ (fun s' => upT_ne fun q => c q.1)
    · rw [h5 _ (by omega) (by omega), k1.2 _ (by omega) (by omega)]
    · rw [h5 _ (by omega) (by omega), k1.2 _ (by omega) (by omega)]
