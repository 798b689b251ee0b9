/-! 30: the reference: its system and its regions -/
def MB (τ : SX) (n : Nat) (T : TT) : Prop := τ.1 1 = nI n ∧ ∀ s l, s < 12 → l < 6 → τ.2 1 (6 * s + l) = enc (T l s)
def MReg (τ : SX) (L : List Nat) : Prop := τ.1 3 = nI L.length ∧ ArD (τ.2 2) L
def MKnown (τ : SX) (n : Nat) (T : TT) : Prop := τ.1 2 = 0 ∨ (τ.1 2 = 1 ∧ MReg τ (RgL n T))
def bad (N : Nat) (x : Int32) : Prop := x < 0 ∨ nI N ≤ x
theorem ok_bad (N : Nat) (x : Int32) (hN : N < 2 ^ 31) : bad N x ∨ ∃ j, j < N ∧ x = nI j := by
  rcases pk_ix x hN with h | h | h
  · exact Or.inl (Or.inl h)
  · exact Or.inl (Or.inr h)
  · exact Or.inr h
theorem M_has {τ : SX} {a k : Nat} (ha : a < 2 ^ 31) (hk : k < 31) : fn_X4_has τ (nI a) (nI k) = some (b2i (a.testBit k)) := by
  unfold fn_X4_has
  rw [i_bit ha hk]
  cases a.testBit k <;> rfl
theorem M_to {τ : SX} {n : Nat} {T : TT} (h : MB τ n T) {s l : Nat} (hs : s < 12) (hl : l < 6) : fn_X4_to τ (nI s) (nI l) = some (enc (T l s)) := by
  unfold fn_X4_to
  rw [show (6 : Int32) = nI 6 from rfl, pk_mul, nI_add, ag_nI (by omega) (by decide), Option.bind_some, h.2 s l hs hl]
theorem M_isState_ok {τ : SX} {n : Nat} {T : TT} (hT : Sys n T) (h : MB τ n T) {s : Nat} (hs : s < n) : fn_X4_isState τ (nI s) = some 1 := by
  have hn := hT.2.1
  unfold fn_X4_isState
  simp only [letb]
  rw [if_neg (nI_pos (by omega)), h.1, if_neg (nI_ge hs (by omega))]; rfl
theorem M_isState_bad {τ : SX} {n : Nat} {T : TT} (h : MB τ n T) {x : Int32} (hx : bad n x) : fn_X4_isState τ x = some 0 := by
  unfold fn_X4_isState
  simp only [letb]
  by_cases c : x < 0
  · rw [if_pos c]; rfl
  · rw [if_neg c, h.1, if_pos (hx.resolve_left c)]; rfl
theorem M_isLabel_ok {τ : SX} {l : Nat} (hl : l < 6) : fn_X4_isLabel τ (nI l) = some 1 := by
  unfold fn_X4_isLabel
  simp only [letb]
  rw [if_neg (nI_pos (by omega)), if_neg (show ¬ (6 : Int32) ≤ nI l from nI_ge hl (by decide))]; rfl
theorem M_isLabel_bad {τ : SX} {x : Int32} (hx : bad 6 x) : fn_X4_isLabel τ x = some 0 := by
  unfold fn_X4_isLabel
  simp only [letb]
  by_cases c : x < 0
  · rw [if_pos c]; rfl
  · rw [if_neg c, if_pos (show (6 : Int32) ≤ x from hx.resolve_left c)]; rfl
theorem M_shl {τ : SX} {n : Nat} {T : TT} (hT : Sys n T) (h : MB τ n T) : (1 : Int32) <<< ((τ.1 1) &&& 31) = nI (2 ^ n) := by
  rw [h.1, i_shl (by have := hT.2.1; omega)]
theorem M_isSet_ok {τ : SX} {n : Nat} {T : TT} (hT : Sys n T) (h : MB τ n T) {a : Nat} (ha : a < 2 ^ n) : fn_X4_isSet τ (nI a) = some 1 := by
  have := p12 hT
  unfold fn_X4_isSet
  simp only [letb]
  rw [if_neg (nI_pos (by omega)), M_shl hT h, if_neg (nI_ge ha (by omega))]; rfl
theorem M_isSet_bad {τ : SX} {n : Nat} {T : TT} (hT : Sys n T) (h : MB τ n T) {x : Int32} (hx : bad (2 ^ n) x) : fn_X4_isSet τ x = some 0 := by
  unfold fn_X4_isSet
  simp only [letb]
  by_cases c : x < 0
  · rw [if_pos c]; rfl
  · rw [if_neg c, M_shl hT h, if_pos (hx.resolve_left c)]; rfl
theorem sumN_zero {g : Nat → Nat} : ∀ {N : Nat}, sumN g N = 0 ↔ ∀ k, k < N → g k = 0
  | 0 => ⟨fun _ k hk => by omega, fun _ => rfl⟩
  | N + 1 => by
    have ih := sumN_zero (g := g) (N := N)
    rw [sumN]
    constructor
    · intro h k hk
      by_cases c : k = N
      · subst c; omega
      · exact ih.mp (by omega) k (by omega)
    · intro h
      have h1 := ih.mpr (fun k hk => h k (by omega))
      have h2 := h N (by omega)
      omega
theorem sumN_mono {g h : Nat → Nat} : ∀ {N : Nat}, (∀ k, k < N → g k ≤ h k) → sumN g N ≤ sumN h N
  | 0, _ => Nat.le_refl _
  | N + 1, hle => by
    have := sumN_mono (N := N) (fun k hk => hle k (by omega))
    have := hle N (by omega)
    rw [sumN, sumN]; omega
theorem sumN_eq {g h : Nat → Nat} : ∀ {N : Nat}, (∀ k, k < N → g k ≤ h k) → (sumN g N = sumN h N ↔ ∀ k, k < N → g k = h k)
  | 0, _ => ⟨fun _ k hk => by omega, fun _ => rfl⟩
  | N + 1, hle => by
    have ih := sumN_eq (N := N) (fun k hk => hle k (by omega))
    have hm := sumN_mono (N := N) (fun k hk => hle k (by omega))
    have hN := hle N (by omega)
    rw [sumN, sumN]
    constructor
    · intro e k hk
      by_cases c : k = N
      · subst c; omega
      · exact ih.mp (by omega) k (by omega)
    · intro e
      have := ih.mpr (fun k hk => e k (by omega))
      have := e N (by omega)
      omega
def cIn (T : TT) (l a : Nat) : Nat → Nat := sumN fun s => b2n (tob (T l s) fun t => !a.testBit s && a.testBit t)
def cOut (T : TT) (l a : Nat) : Nat → Nat := sumN fun s => b2n (tob (T l s) fun t => a.testBit s && !a.testBit t)
def cAll (T : TT) (l : Nat) : Nat → Nat := sumN fun s => b2n (T l s).isSome
theorem b2n0 (b : Bool) : b2n b = 0 ↔ b = false := by cases b <;> decide
theorem b2n_eq {a b : Bool} : b2n a = b2n b ↔ a = b := by cases a <;> cases b <;> decide
theorem b2n_mono {a b : Bool} (h : a = true → b = true) : b2n a ≤ b2n b := by cases a <;> cases b <;> simp_all [b2n]
theorem way_count {n : Nat} {T : TT} (hT : Sys n T) (l a : Nat) : wayS T l a = if cIn T l a n + cOut T l a n = 0 then 0 else if cIn T l a n = cAll T l n then 1 else if cOut T l a n = cAll T l n then 2 else 3 := by
  have hn := hT.2.1
  have lt : ∀ {s t}, T l s = some t → s < n := fun e => (hT.2.2 _ _ _ e).2.1
  have h0 : allS T l (fun s t => a.testBit s == a.testBit t) = true ↔ cIn T l a n + cOut T l a n = 0 := by
    rw [allS_iff]
    unfold cIn cOut
    rw [Nat.add_eq_zero_iff, sumN_zero, sumN_zero]
    constructor
    · intro h
      constructor <;> intro s hs <;> rw [b2n0] <;> cases e : T l s with
        | none => rfl
        | some t =>
          have := h s (by omega) t e
          simp only [tob]
          cases h1 : a.testBit s <;> cases h2 : a.testBit t <;> simp_all
    · rintro ⟨h1, h2⟩ s _ t e
      have g1 := (b2n0 _).mp (h1 s (lt e))
      have g2 := (b2n0 _).mp (h2 s (lt e))
      rw [e] at g1 g2
      simp only [tob] at g1 g2
      cases q1 : a.testBit s <;> cases q2 : a.testBit t <;> simp_all
  have h1 : allS T l (fun s t => !a.testBit s && a.testBit t) = true ↔ cIn T l a n = cAll T l n := by
    rw [allS_iff]
    unfold cIn cAll
    rw [sumN_eq (fun s _ => b2n_mono (by cases T l s <;> simp [tob]))]
    constructor
    · intro h s hs
      rw [b2n_eq]
      cases e : T l s with
      | none => rfl
      | some t => exact h s (by omega) t e
    · intro h s _ t e
      have g := b2n_eq.mp (h s (lt e))
      rw [e] at g
      exact g
  have h2 : allS T l (fun s t => a.testBit s && !a.testBit t) = true ↔ cOut T l a n = cAll T l n := by
    rw [allS_iff]
    unfold cOut cAll
    rw [sumN_eq (fun s _ => b2n_mono (by cases T l s <;> simp [tob]))]
    constructor
    · intro h s hs
      rw [b2n_eq]
      cases e : T l s with
      | none => rfl
      | some t => exact h s (by omega) t e
    · intro h s _ t e
      have g := b2n_eq.mp (h s (lt e))
      rw [e] at g
      exact g
  unfold wayS
  by_cases c0 : cIn T l a n + cOut T l a n = 0
  · rw [if_pos (h0.mpr c0), if_pos c0]
  · rw [if_neg (fun q => c0 (h0.mp q)), if_neg c0]
    by_cases c1 : cIn T l a n = cAll T l n
    · rw [if_pos (h1.mpr c1), if_pos c1]
    · rw [if_neg (fun q => c1 (h1.mp q)), if_neg c1]
      by_cases c2 : cOut T l a n = cAll T l n
      · rw [if_pos (h2.mpr c2), if_pos c2]
      · rw [if_neg (fun q => c2 (h2.mp q)), if_neg c2]
theorem M_way {τ : SX} {n : Nat} {T : TT} (hT : Sys n T) (h : MB τ n T) {a l : Nat} (ha : a < 2 ^ 12) (hl : l < 6) : fn_X4_way τ (nI a) (nI l) = some (nI (wayS T l a)) := by
  have hn := hT.2.1
  unfold fn_X4_way
  simp only [letb]
  have le1 : ∀ k, cIn T l a k ≤ 1 * k := fun k => sumN_le fun _ _ => b2n_le _
  have le2 : ∀ k, cOut T l a k ≤ 1 * k := fun k => sumN_le fun _ _ => b2n_le _
  have le3 : ∀ k, cAll T l k ≤ 1 * k := fun k => sumN_le fun _ _ => b2n_le _
  refine loop_0m (body := bd_X4_way_11 τ (nI a) (nI l)) (bot := fun _ _ _ _ => none) (fun i g => g (nI (cIn T l a i)) (nI (cOut T l a i)) (nI (cAll T l i)) (nI i)) n _ (by unfold FU; omega) ?_ ?_
  · intro rec i hi
    rw [bd_X4_way_11, h.1, if_neg (nI_ge hi (by omega)), M_to h (by omega) hl, Option.bind_some]
    simp only [letb]
    rw [nI_1, nI_1]
    cases e : T l i with
    | none =>
      rw [if_neg (show ¬ ¬ enc none = -1 from fun q => q rfl)]
      have e1 : cIn T l a (i + 1) = cIn T l a i := by unfold cIn; rw [sumN, e]; rfl
      have e2 : cOut T l a (i + 1) = cOut T l a i := by unfold cOut; rw [sumN, e]; rfl
      have e3 : cAll T l (i + 1) = cAll T l i := by unfold cAll; rw [sumN, e]; rfl
      rw [e1, e2, e3]
    | some t =>
      have ht := (hT.2.2 l i t e).2.2
      have e1 : cIn T l a (i + 1) = cIn T l a i + b2n (!a.testBit i && a.testBit t) := by unfold cIn; rw [sumN, e]; rfl
      have e2 : cOut T l a (i + 1) = cOut T l a i + b2n (a.testBit i && !a.testBit t) := by unfold cOut; rw [sumN, e]; rfl
      have e3 : cAll T l (i + 1) = cAll T l i + 1 := by unfold cAll; rw [sumN, e]; rfl
      rw [if_pos (show ¬ enc (some t) = -1 from i_neg1 (by omega)), M_has (by omega) (by omega), show enc (some t) = nI t from rfl, M_has (by omega) (by omega), e1, e2, e3]
      simp only [Option.bind_some]
      cases c1 : a.testBit i <;> cases c2 : a.testBit t
      · rw [if_neg (fun q => q b2iF), if_pos b2iF, if_pos b2iF]
        show rec (nI (cIn T l a i) + nI 0) (nI (cOut T l a i) + nI 0) _ _ = _
        rw [nI_add, nI_add]; rfl
      · rw [if_neg (fun q => q b2iF), if_neg b2iT, if_pos b2iF]
        show rec (nI (cIn T l a i) + nI 1) (nI (cOut T l a i) + nI 0) _ _ = _
        rw [nI_add, nI_add]; rfl
      · rw [if_pos b2iT, if_neg b2iT, if_neg (fun q => q b2iF)]
        show rec (nI (cIn T l a i) + nI 0) (nI (cOut T l a i) + nI 1) _ _ = _
        rw [nI_add, nI_add]; rfl
      · rw [if_pos b2iT, if_neg b2iT, if_pos b2iT]
        show rec (nI (cIn T l a i) + nI 0) (nI (cOut T l a i) + nI 0) _ _ = _
        rw [nI_add, nI_add]; rfl
  · intro rec
    have l1 := le1 n
    have l2 := le2 n
    have l3 := le3 n
    rw [bd_X4_way_11, h.1, if_pos (nI_le (Nat.le_refl n) (by omega)), way_count hT, nI_add]
    by_cases c0 : cIn T l a n + cOut T l a n = 0
    · rw [if_neg (fun q => q ((nI_z (by omega)).mpr c0)), if_pos c0]; rfl
    · rw [if_pos (fun q => c0 ((nI_z (by omega)).mp q)), if_neg c0]
      by_cases c1 : cIn T l a n = cAll T l n
      · rw [if_neg (fun q => q (congrArg nI c1)), if_pos c1]; rfl
      · rw [if_pos (nI_ne (by omega) (by omega) c1), if_neg c1]
        by_cases c2 : cOut T l a n = cAll T l n
        · rw [if_neg (fun q => q (congrArg nI c2)), if_pos c2]; rfl
        · rw [if_pos (nI_ne (by omega) (by omega) c2), if_neg c2]; rfl
theorem M_mixed {τ : SX} {n : Nat} {T : TT} (hT : Sys n T) (h : MB τ n T) {a : Nat} (ha : a < 2 ^ 12) : fn_X4_mixed τ (nI a) = some (enc (mixS T a)) := by
  unfold fn_X4_mixed
  simp only [letb]
  refine Eq.trans (loop_find (body := bd_X4_mixed_2 τ (nI a)) (bot := fun _ => none) (fun i g => g (nI i)) 6 (fun l => wayS T l a == 3) (fun i => some (nI i)) (some (-1)) (by decide) ?_ ?_ ?_) ?_
  · intro rec i hi hp
    rw [bd_X4_mixed_2, if_neg (show ¬ (6 : Int32) ≤ nI i from nI_ge hi (by decide)), M_way hT h ha hi, Option.bind_some, if_pos (show ¬ nI (wayS T i a) = 3 from nI_ne (b := 3) (by have := wayS_le T i a; omega) (by decide) (by simpa using hp))]
    simp only [letb]
    rw [nI_1]
  · intro rec i hi hp
    rw [bd_X4_mixed_2, if_neg (show ¬ (6 : Int32) ≤ nI i from nI_ge hi (by decide)), M_way hT h ha hi, Option.bind_some, if_neg (show ¬ ¬ nI (wayS T i a) = 3 from fun q => q (by rw [show wayS T i a = 3 by simpa using hp]; rfl))]
  · intro rec
    rw [bd_X4_mixed_2, if_pos (show (6 : Int32) ≤ nI 6 from nI_le (Nat.le_refl 6) (by decide))]
  · show _ = some (enc (fnd 6 (fun l => wayS T l a == 3)))
    cases fnd 6 (fun l => wayS T l a == 3) <;> rfl
theorem M_isProper {τ : SX} {n : Nat} {T : TT} (hT : Sys n T) (h : MB τ n T) {a : Nat} (ha : a < 2 ^ n) : fn_X4_isProper τ (nI a) = some (b2i (isReg n T a)) := by
  have hp := p12 hT
  unfold fn_X4_isProper
  simp only [letb]
  have e1 : ((1 : Int32) <<< ((τ.1 1) &&& 31)) - 1 = nI (2 ^ n - 1) := by rw [M_shl hT h, nI1, pk_sub (by omega)]
  rw [e1]
  unfold isReg
  by_cases c0 : a = 0
  · subst c0; rw [if_pos (show nI 0 ≤ 0 from nI_le (Nat.le_refl 0) (by decide))]; rfl
  · rw [if_neg (nI_nle (by omega) (by omega))]
    by_cases c1 : a = 2 ^ n - 1
    · rw [if_pos (nI_le (by omega) (by omega)), decide_eq_false (show ¬ a < 2 ^ n - 1 by omega)]; simp; rfl
    · rw [if_neg (nI_ge (by omega) (by omega)), M_mixed hT h (by omega), Option.bind_some, decide_eq_true (show 0 < a by omega), decide_eq_true (show a < 2 ^ n - 1 by omega)]
      by_cases c2 : mixS T a = none
      · rw [if_neg (fun q => q (mix_n.mpr c2)), c2]; rfl
      · rw [if_pos (fun q => c2 (mix_n.mp q)), ob_ne c2]; rfl
/-- what knowing the regions keeps -/
def KeepK (τ τ' : SX) : Prop := (∀ k, k ≠ 2 → k ≠ 3 → τ'.1 k = τ.1 k) ∧ ∀ a, a ≠ 2 → τ'.2 a = τ.2 a
theorem KeepK.rf {τ : SX} : KeepK τ τ := ⟨fun _ _ _ => rfl, fun _ _ => rfl⟩
theorem KeepK.trans {σ σ' σ'' : SX} (h1 : KeepK σ σ') (h2 : KeepK σ' σ'') : KeepK σ σ'' := ⟨fun k a b => (h2.1 k a b).trans (h1.1 k a b), fun a b => (h2.2 a b).trans (h1.2 a b)⟩
theorem MB.keepK {τ τ' : SX} {n : Nat} {T : TT} (h : MB τ n T) (hk : KeepK τ τ') : MB τ' n T := ⟨(hk.1 1 (by decide) (by decide)).trans h.1, fun s l hs hl => by rw [hk.2 1 (by decide)]; exact h.2 s l hs hl⟩
theorem RT_top {n : Nat} {T : TT} (hT : Sys n T) : RT n T (2 ^ n) = RgL n T := by
  have hp := p12 hT
  have := RT_succ (n := n) (T := T) (m := 2 ^ n - 1)
  rw [show 2 ^ n - 1 + 1 = 2 ^ n by omega] at this
  rw [this, if_neg]
  · rfl
  · unfold isReg; simp
theorem RT_0 {n : Nat} {T : TT} : RT n T 0 = [] := rfl
theorem RT_len0 {n : Nat} {T : TT} : ∀ m, (RT n T m).length ≤ m
  | 0 => Nat.le_refl _
  | m + 1 => Nat.le_trans (RT_len m) (by omega)
theorem M_know {τ : SX} {n : Nat} {T : TT} (hT : Sys n T) (h : MB τ n T) (hk : MKnown τ n T) : ∃ τ', fn_X4_know τ = some τ' ∧ KeepK τ τ' ∧ τ'.1 2 = 1 ∧ MReg τ' (RgL n T) := by
  have hp := p12 hT
  unfold fn_X4_know
  rcases hk with hk | ⟨hk, hR⟩
  · rw [if_pos hk]
    simp only [letb]
    refine loop_rel (body := bd_X4_know_20) (bot := fun _ _ => none) (fun i (ρ : SX) g => g (nI i) ρ) (2 ^ n) (fun i ρ => KeepK τ ρ ∧ ρ.1 2 = 1 ∧ MReg ρ (RT n T i)) (fun o => ∃ τ', o = some τ' ∧ KeepK τ τ' ∧ τ'.1 2 = 1 ∧ MReg τ' (RgL n T)) ?_ ?_ FU 0 _ (Nat.zero_le _) (by unfold FU; omega) ⟨⟨fun k a b => by rw [ss_ne b, ss_ne a], fun _ _ => rfl⟩, by rw [ss_ne (by decide), ss_self], ?_⟩
    · intro rec i ρ hi ⟨hK, h2, hR⟩ hnext
      have hρ := h.keepK hK
      have hlen := RT_len0 (n := n) (T := T) i
      rw [bd_X4_know_20, M_shl hT hρ, if_neg (nI_ge hi (by omega)), M_isProper hT hρ hi, Option.bind_some]
      simp only [letb]
      rw [nI_1]
      cases e : isReg n T i with
      | false =>
        rw [if_neg (fun q => q b2iF)]
        exact hnext ρ ⟨hK, h2, by rw [RT_succ, e]; exact hR⟩
      | true =>
        rw [if_pos b2iT, hR.1, as_nI (by omega) (by decide), Option.bind_some]
        refine hnext _ ⟨⟨fun k a b => by rw [ss_ne b, sa1]; exact hK.1 k a b, fun a b => by rw [ss2, sa2 b]; exact hK.2 a b⟩, by rw [ss_ne (by decide), sa1]; exact h2, ?_, ?_⟩
        · rw [ss_self, sa1, hR.1, nI_1, RT_succ, e, if_pos rfl, List.length_append]; rfl
        · rw [RT_succ, e, if_pos rfl]
          exact hR.2.push (fun j hj => by rw [ss2, sa_self, if_neg hj]) (by rw [ss2, sa_self, if_pos rfl])
    · intro rec ρ ⟨hK, h2, hR⟩
      rw [bd_X4_know_20, M_shl hT (h.keepK hK), if_pos (nI_le (Nat.le_refl _) (by omega))]
      refine ⟨ρ, rfl, hK, h2, ?_⟩
      rw [RT_top hT] at hR
      exact hR
    · exact ⟨ss_self, fun i hi => by simp [RT_0] at hi⟩
  · rw [if_neg (show ¬ τ.1 2 = 0 by rw [hk]; decide)]
    exact ⟨τ, rfl, KeepK.rf, hk, hR⟩
theorem M_sets {τ : SX} {n : Nat} {T : TT} (hT : Sys n T) (hR : MReg τ (RgL n T)) {k : Nat} (hk : k < (RgL n T).length) : ag τ 2 4096 (nI k) = some (nI (rg n T k)) := by
  have := RgL_len hT
  rw [ag_nI (by omega) (by decide), hR.2 k hk]; rfl
theorem M_isSmallest {τ : SX} {n : Nat} {T : TT} (hT : Sys n T) (hR : MReg τ (RgL n T)) {k : Nat} (hk : k < (RgL n T).length) : fn_X4_isSmallest τ (nI k) = some (b2i (leastS n T k)) := by
  unfold fn_X4_isSmallest
  simp only [letb]
  have hlen := RgL_len hT
  have bk := rg_lt hT hk
  -- the flag behind i regions
  refine loop_rel (body := bd_X4_isSmallest_4 τ (nI k)) (bot := fun _ _ => none) (fun i (x : Int32) g => g x (nI i)) k (fun i x => x = b2i (!anyB i fun j => sub (rg n T j) (rg n T k))) (fun o => o = some (b2i (leastS n T k))) ?_ ?_ FU 0 1 (Nat.zero_le _) (by unfold FU; omega) rfl
  · intro rec i x hi hx hnext
    have bi := rg_lt hT (show i < (RgL n T).length by omega)
    rw [bd_X4_isSmallest_4]
    simp only [letb]
    rw [if_neg (nI_ge hi (by omega))]
    cases e : anyB i fun j => sub (rg n T j) (rg n T k) with
    | true =>
      rw [e] at hx
      rw [hx, if_pos (show b2i (!true) = 0 from rfl)]
      obtain ⟨j, h1, h2⟩ := anyB_iff.mp e
      have : leastS n T k = false := by
        unfold leastS
        rw [fnd_any, anyB_iff.mpr ⟨j, by omega, h2⟩]; rfl
      rw [this]; rfl
    | false =>
      rw [e] at hx
      rw [hx, if_neg (show ¬ b2i (!false) = 0 by decide), M_sets hT hR (by omega), Option.bind_some, M_sets hT hR hk, Option.bind_some]
      rw [nI_1]
      by_cases c : sub (rg n T i) (rg n T k) = true
      · rw [if_pos ((i_sub (by omega) (by omega)).mpr c)]
        exact hnext 0 (by rw [anyB_succ, e, c]; rfl)
      · rw [if_neg (fun q => c ((i_sub (by omega) (by omega)).mp q))]
        exact hnext 1 (by rw [anyB_succ, e, show sub (rg n T i) (rg n T k) = false by simpa using c]; rfl)
  · intro rec x hx
    rw [bd_X4_isSmallest_4]
    simp only [letb]
    rw [if_pos (nI_le (Nat.le_refl k) (by omega)), hx]
    unfold leastS
    rw [fnd_any]
    cases anyB k fun j => sub (rg n T j) (rg n T k) <;> rfl
theorem M_firstApart {τ : SX} {n : Nat} {T : TT} (hT : Sys n T) (h : MB τ n T) (hk : MKnown τ n T) {a b : Nat} (ha : a < 12) (hb : b < 12) :
    ∃ τ', fn_X4_firstApart τ (nI a) (nI b) = some (enc (apartS n T a b), τ') ∧ KeepK τ τ' ∧ τ'.1 2 = 1 ∧ MReg τ' (RgL n T) := by
  obtain ⟨τ1, e1, k1, h2, hR⟩ := M_know hT h hk
  refine ⟨τ1, ?_, k1, h2, hR⟩
  have hlen := RgL_len hT
  unfold fn_X4_firstApart
  rw [e1]
  simp only [Option.bind_some, letb]
  refine Eq.trans (loop_find (body := bd_X4_firstApart_6 (nI a) (nI b) τ1) (bot := fun _ => none) (fun i g => g (nI i)) (RgL n T).length (fun k => (rg n T k).testBit a != (rg n T k).testBit b) (fun i => some (nI i, τ1)) (some (-1, τ1)) (by unfold FU; omega) ?_ ?_ ?_) ?_
  · intro rec i hi hp
    have bi := rg_lt hT hi
    rw [bd_X4_firstApart_6, hR.1, if_neg (nI_ge hi (by omega)), M_sets hT hR hi, Option.bind_some, M_has (by omega) (by omega), Option.bind_some, Option.bind_some, M_has (by omega) (by omega), Option.bind_some, if_pos (b2i_eq.mpr (by simpa using hp))]
    simp only [letb]
    rw [nI_1]
  · intro rec i hi hp
    have bi := rg_lt hT hi
    rw [bd_X4_firstApart_6, hR.1, if_neg (nI_ge hi (by omega)), M_sets hT hR hi, Option.bind_some, M_has (by omega) (by omega), Option.bind_some, Option.bind_some, M_has (by omega) (by omega), Option.bind_some, if_neg (fun q => by rw [b2i_eq.mp q] at hp; simp at hp)]
  · intro rec
    rw [bd_X4_firstApart_6, hR.1, if_pos (nI_le (Nat.le_refl _) (by omega))]
  · unfold apartS
    cases fnd (RgL n T).length (fun k => (rg n T k).testBit a != (rg n T k).testBit b) <;> rfl
theorem M_firstPreventer {τ : SX} {n : Nat} {T : TT} (hT : Sys n T) (h : MB τ n T) (hk : MKnown τ n T) {s l : Nat} (hs : s < 12) (hl : l < 6) :
    ∃ τ', fn_X4_firstPreventer τ (nI s) (nI l) = some (enc (prevS n T s l), τ') ∧ KeepK τ τ' ∧ τ'.1 2 = 1 ∧ MReg τ' (RgL n T) := by
  obtain ⟨τ1, e1, k1, h2, hR⟩ := M_know hT h hk
  refine ⟨τ1, ?_, k1, h2, hR⟩
  have hlen := RgL_len hT
  have hb := h.keepK k1
  unfold fn_X4_firstPreventer
  rw [e1]
  simp only [Option.bind_some, letb]
  have step : ∀ (rec : Int32 → Option (Int32 × SX)) i, i < (RgL n T).length → bd_X4_firstPreventer_6 (nI s) (nI l) τ1 rec (nI i) = if prevP T (rg n T i) s l then some (nI i, τ1) else rec (nI (i + 1)) := by
    intro rec i hi
    have bi := rg_lt hT hi
    have hw := wayS_le T l (rg n T i)
    rw [bd_X4_firstPreventer_6, hR.1, if_neg (nI_ge hi (by omega)), M_sets hT hR hi, Option.bind_some, M_way hT hb bi hl, Option.bind_some]
    simp only [letb, Option.bind_some]
    rw [M_has (by omega) (by omega), nI_1]
    simp only [Option.bind_some]
    unfold prevP
    by_cases c2 : wayS T l (rg n T i) = 2
    · rw [if_neg (fun q => q (by rw [c2]; rfl)), if_pos (show ¬ nI (wayS T l (rg n T i)) = 1 by rw [c2]; decide), c2]
      cases (rg n T i).testBit s <;> rfl
    · rw [if_pos (show ¬ nI (wayS T l (rg n T i)) = 2 from nI_ne (b := 2) (by omega) (by decide) c2), show (wayS T l (rg n T i) == 2) = false by simpa using c2]
      by_cases c1 : wayS T l (rg n T i) = 1
      · rw [if_neg (fun q => q (by rw [c1]; rfl)), c1]
        cases (rg n T i).testBit s <;> rfl
      · rw [if_pos (show ¬ nI (wayS T l (rg n T i)) = 1 from nI_ne (b := 1) (by omega) (by decide) c1), show (wayS T l (rg n T i) == 1) = false by simpa using c1]
        cases (rg n T i).testBit s <;> rfl
  refine Eq.trans (loop_find (body := bd_X4_firstPreventer_6 (nI s) (nI l) τ1) (bot := fun _ => none) (fun i g => g (nI i)) (RgL n T).length (fun k => prevP T (rg n T k) s l) (fun i => some (nI i, τ1)) (some (-1, τ1)) (by unfold FU; omega) ?_ ?_ ?_) ?_
  · intro rec i hi hp
    rw [step rec i hi, hp]; rfl
  · intro rec i hi hp
    rw [step rec i hi, hp]; rfl
  · intro rec
    rw [bd_X4_firstPreventer_6, hR.1, if_pos (nI_le (Nat.le_refl _) (by omega))]
  · unfold prevS
    cases fnd (RgL n T).length (fun k => prevP T (rg n T k) s l) <;> rfl
