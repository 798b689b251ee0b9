/-! 43: giving the steps with a label another one -/
/-- the states below k have their steps with a given the label b -/
def renT (T : TT) (a b k : Nat) : TT := fun l s => if s < k then (if l = a then none else if l = b then (if T a s = none then T b s else T a s) else T l s) else T l s
theorem renT_0 {T : TT} {a b : Nat} : renT T a b 0 = T := by funext l s; exact if_neg (by omega)
theorem renT_at {T : TT} {a b k l s : Nat} (h : k ≤ s) : renT T a b k l s = T l s := if_neg (by omega)
theorem renT_ne {T : TT} {a b k l s : Nat} (h1 : l ≠ a) (h2 : l ≠ b) : renT T a b k l s = T l s := by
  unfold renT
  rw [if_neg h1, if_neg h2]
  split <;> rfl
theorem renT_skip {T : TT} {a b k : Nat} (h : T a k = none) : renT T a b (k + 1) = renT T a b k := by
  funext l s
  unfold renT
  by_cases c : s = k
  · subst c
    rw [if_pos (show s < s + 1 by omega), if_neg (show ¬ s < s by omega), h, if_pos rfl]
    by_cases c1 : l = a
    · rw [if_pos c1, c1, h]
    · rw [if_neg c1]
      by_cases c2 : l = b
      · rw [if_pos c2, c2]
      · rw [if_neg c2]
  · by_cases c1 : s < k
    · rw [if_pos (by omega), if_pos c1]
    · rw [if_neg (by omega), if_neg c1]
theorem renT_step {T : TT} {a b k : Nat} (hab : a ≠ b) (h : T a k ≠ none) : renT T a b (k + 1) = upT (upT (renT T a b k) b k (T a k)) a k none := by
  funext l s
  by_cases c : s = k
  · subst c
    by_cases c1 : l = a
    · subst c1
      rw [upT_self]; unfold renT; rw [if_pos (by omega), if_pos rfl]
    · rw [upT_ne (fun q => c1 q.1)]
      by_cases c2 : l = b
      · subst c2
        rw [upT_self]; unfold renT; rw [if_pos (by omega), if_neg c1, if_pos rfl, if_neg h]
      · rw [upT_ne (fun q => c2 q.1)]; unfold renT; rw [if_pos (by omega), if_neg c1, if_neg c2, if_neg (by omega)]
  · rw [upT_ne (fun q => c q.2), upT_ne (fun q => c q.2)]
    unfold renT
    by_cases c1 : s < k
    · rw [if_pos (by omega), if_pos c1]
    · rw [if_neg (by omega), if_neg c1]
theorem renT_sys {n : Nat} {T : TT} (hT : Sys n T) {a b : Nat} (hb : b < 6) (k : Nat) : Sys n (renT T a b k) := by
  refine ⟨hT.1, hT.2.1, fun l s t e => ?_⟩
  by_cases c : s < k
  · unfold renT at e
    rw [if_pos c] at e
    by_cases c1 : l = a
    · rw [if_pos c1] at e; cases e
    · rw [if_neg c1] at e
      by_cases c2 : l = b
      · rw [if_pos c2] at e
        subst c2
        by_cases c3 : T a s = none
        · rw [if_pos c3] at e; exact hT.2.2 l s t e
        · rw [if_neg c3] at e; exact ⟨hb, (hT.2.2 a s t e).2⟩
      · rw [if_neg c2] at e; exact hT.2.2 l s t e
  · rw [renT_at (by omega)] at e; exact hT.2.2 l s t e
/-- the renamed system -/
def renS (n : Nat) (T : TT) (a b : Nat) : TT := if a = b then T else renT T a b n
theorem renS_sys {n : Nat} {T : TT} (hT : Sys n T) {a b : Nat} (hb : b < 6) : Sys n (renS n T a b) := by
  unfold renS
  split
  · exact hT
  · exact renT_sys hT hb n
def cntS (T : TT) (a k : Nat) : Nat := sumN (fun s => b2n (hasS T a s)) k
def bothS (T : TT) (a b k : Nat) : Bool := anyB k fun s => hasS T a s && hasS T b s
theorem hasS_n {n : Nat} {T : TT} (hT : Sys n T) {l s : Nat} (h : n ≤ s) : hasS T l s = false := by unfold hasS; rw [hT.none h]; rfl
theorem hasS_f {T : TT} {l s : Nat} : hasS T l s = false ↔ T l s = none := by unfold hasS; simp
theorem hasS_t {T : TT} {l s : Nat} : hasS T l s = true ↔ ¬ T l s = none := by unfold hasS; simp
theorem tobT {o : Option Nat} : tob o (fun _ => true) = (o != none) := by cases o <;> rfl
theorem pc_cnt {n : Nat} {T : TT} (hT : Sys n T) (a : Nat) : pc (src T a fun _ => true) = cntS T a n := by
  rw [pc_sum]
  unfold cntS
  rw [sumN_cut (N := 12) hT.2.1 (fun k hk => by rw [hasS_n hT hk]; rfl)]
  refine sumN_congr fun k hk => ?_
  rw [src_sub, decide_eq_true hk, Bool.true_and, tobT]; rfl
theorem both_and {n : Nat} {T : TT} (hT : Sys n T) (a b : Nat) : ((src T a fun _ => true) &&& (src T b fun _ => true)) = 0 ↔ bothS T a b n = false := by
  constructor
  · intro h
    unfold bothS
    refine anyB_false fun k hk => ?_
    have h1 : ((src T a fun _ => true) &&& (src T b fun _ => true)).testBit k = false := by rw [h, Nat.zero_testBit]
    have hk12 : k < 12 := Nat.lt_of_lt_of_le hk hT.2.1
    rw [Nat.testBit_and, src_sub, src_sub, decide_eq_true hk12, Bool.true_and, Bool.true_and, tobT, tobT] at h1
    exact h1
  · intro h
    refine Nat.eq_of_testBit_eq fun k => ?_
    rw [Nat.testBit_and, src_sub, src_sub, tobT, tobT, Nat.zero_testBit]
    by_cases c : k < n
    · have : (hasS T a k && hasS T b k) = false := by
        cases e : (hasS T a k && hasS T b k) with
        | false => rfl
        | true => rw [← h]; exact (anyB_iff.mpr ⟨k, c, e⟩).symm
      have h2 : ((T a k != none) && (T b k != none)) = false := this
      cases e1 : (T a k != none) with
      | false => simp
      | true => rw [e1, Bool.true_and] at h2; rw [h2]; simp
    · rw [hT.none (l := a) (show n ≤ k by omega)]; simp
theorem src_t_lt (T : TT) (l : Nat) : src T l (fun _ => true) < 2 ^ 31 := src_lt' _ _ _
theorem KeepE.trans {σ σ' σ'' : SX} (h1 : KeepE σ σ') (h2 : KeepE σ' σ'') : KeepE σ σ'' := ⟨h2.1.trans h1.1, fun a g1 g2 => (h2.2 a g1 g2).trans (h1.2 a g1 g2)⟩
theorem L_move {σ : SX} {n : Nat} {T : TT} (hT : Sys n T) (h : StOk σ n T) {a b : Nat} (ha : a < 6) (hb : b < 6) (hab : a ≠ b) :
    ∃ σ', fn_X2_move σ (nI a) (nI b) = some σ' ∧ StOk σ' n (renT T a b n) := by
  have hn := hT.2.1
  unfold fn_X2_move
  simp only [letb]
  refine loop_rel (body := bd_X2_move_2 (nI a) (nI b)) (bot := fun _ _ => none) (fun i (τ : SX) g => g (nI i) τ) n (fun i τ => EB τ n (renT T a b i) ∧ KeepE σ τ) (fun o => ∃ σ', o = some σ' ∧ StOk σ' n (renT T a b n)) ?_ ?_ FU 0 σ (Nat.zero_le _) (by unfold FU; omega) ⟨by rw [renT_0]; exact h.1, rfl, fun _ _ _ => rfl⟩
  · intro rec i τ hi hI hk
    obtain ⟨h1, k1⟩ := hI
    have h0 : renT T a b i a i = T a i := renT_at (Nat.le_refl i)
    rw [bd_X2_move_2, h1.1, if_neg (nI_ge hi (by omega)), arow_nI ha, Option.bind_some, ag_nI (by omega) (by decide), Option.bind_some, h1.2.1 a i ha (by omega), h0]
    simp only [letb]
    rw [nI_1]
    by_cases c : T a i = none
    · rw [if_pos ((enc_none hT).mpr c)]
      exact hk τ ⟨by rw [renT_skip c]; exact h1, k1⟩
    · rw [if_neg (fun q => c ((enc_none hT).mp q))]
      have hS := renT_sys hT hb (a := a) i
      obtain ⟨σ1, e1, q1, k2⟩ := L_setEnd hS h1 (l := b) (s := i) (o := T a i) hb hi (fun t e => (hT.2.2 a i t e).2.2)
      obtain ⟨σ2, e2, q2, k3⟩ := L_setEnd (hS.upT hb hi (fun t e => (hT.2.2 a i t e).2.2)) q1 (l := a) (s := i) (o := none) ha hi (fun t e => by cases e)
      rw [e1, Option.bind_some, show (-1 : Int32) = enc none from rfl, e2, Option.bind_some]
      exact hk σ2 ⟨by rw [renT_step hab c]; exact q2, (k1.trans k2).trans k3⟩
  · intro rec τ hI
    obtain ⟨h1, k1⟩ := hI
    have hS := renT_sys hT hb (a := a) n
    rw [bd_X2_move_2, h1.1, if_pos (nI_le (Nat.le_refl n) (by omega))]
    have z : ∀ l, l < 6 → τ.2 (19 + l) 0 = 0 ∧ τ.2 (25 + l) 0 = 0 := fun l hl => by
      rw [k1.2 _ (by omega) (by omega), k1.2 _ (by omega) (by omega)]; exact LH0 (h.2 l hl)
    obtain ⟨σ1, e1, q1, q2, q3, q4⟩ := L_learnSources hS h1 ha (z a ha)
    obtain ⟨σ2, e2, r1, r2, r3, r4⟩ := L_learnSources hS q1 hb (by rw [q4 _ (by omega) (by omega), q4 _ (by omega) (by omega)]; exact z b hb)
    rw [e1, Option.bind_some, e2, Option.bind_some]
    refine ⟨σ2, rfl, r1, fun l hl => ?_⟩
    by_cases c1 : l = b
    · subst c1; exact r2
    · by_cases c2 : l = a
      · subst c2
        exact q2.moved (r4 _ (by omega) (by omega)) (r4 _ (by omega) (by omega)) (fun s => rfl)
      · refine (h.2 l hl).moved ?_ ?_ (fun s => renT_ne c2 c1)
        · rw [r4 _ (by omega) (by omega), q4 _ (by omega) (by omega), k1.2 _ (by omega) (by omega)]
        · rw [r4 _ (by omega) (by omega), q4 _ (by omega) (by omega), k1.2 _ (by omega) (by omega)]
theorem X_rename_ok {σ : SX} {n : Nat} {T : TT} {mk : Option Nat} (hT : Sys n T) (h : XI σ n T mk) {a b : Nat} (ha : a < 6) (hb : b < 6) (hc : a = b ∨ bothS T a b n = false) : XOk (fn_X3_rename σ (nI a) (nI b)) n (renS n T a b) none (nI (cntS T a n)) := by
  have l1 := src_lt T a (fun _ => true)
  have l2 := src_t_lt T b
  unfold fn_X3_rename
  simp only [letb]
  rw [X_needLabel_ok ha, bx_ok, X_needLabel_ok hb, bx_ok, L_beginning h.1.1 ha, Option.bind_some, L_beginning h.1.1 hb, Option.bind_some, bc_all _ l1, pc_cnt hT]
  unfold renS
  by_cases c : a = b
  · subst c
    rw [if_pos (show nI a = nI a from rfl), if_pos (show a = a from rfl)]
    obtain ⟨σ2, e2, i2⟩ := X_changed h.1
    rw [e2]
    exact ⟨σ2, rfl, i2⟩
  · rw [if_neg (nI_ne (by omega) (by omega) c), if_neg c, i_and (by omega) l2, (both_and hT a b).mpr (hc.resolve_left c), if_pos (show nI 0 = 0 from rfl)]
    obtain ⟨σ1, e1, h1⟩ := L_move hT h.1 ha hb c
    rw [e1, Option.bind_some]
    obtain ⟨σ2, e2, i2⟩ := X_changed h1
    rw [e2]
    exact ⟨σ2, rfl, i2⟩
theorem X_rename_both {σ : SX} {n : Nat} {T : TT} {mk : Option Nat} (hT : Sys n T) (h : XI σ n T mk) {a b : Nat} (ha : a < 6) (hb : b < 6) (hab : a ≠ b) (hc : bothS T a b n = true) : XBad (fn_X3_rename σ (nI a) (nI b)) n T mk exS := by
  have l1 := src_lt T a (fun _ => true)
  have l2 := src_t_lt T b
  unfold fn_X3_rename
  simp only [letb]
  rw [X_needLabel_ok ha, bx_ok, X_needLabel_ok hb, bx_ok, L_beginning h.1.1 ha, Option.bind_some, L_beginning h.1.1 hb, Option.bind_some, if_neg (nI_ne (by omega) (by omega) hab), i_and (by omega) l2]
  have hx : ((src T a fun _ => true) &&& (src T b fun _ => true)) < 2 ^ 12 := Nat.lt_of_le_of_lt Nat.and_le_left l1
  rw [if_neg (show ¬ nI _ = (0 : Int32) from nI_ne (b := 0) (by omega) (by decide) (fun q => by rw [(both_and hT a b).mp q] at hc; cases hc))]
  exact ⟨σ, rfl, h⟩
theorem X_rename_bad {σ : SX} {n : Nat} {T : TT} {mk : Option Nat} (h : XI σ n T mk) {x y : Int32} (hb : bad 6 x ∨ bad 6 y) : XBad (fn_X3_rename σ x y) n T mk exI := by
  unfold fn_X3_rename
  rcases ok_bad 6 x (by omega) with c | ⟨s, hs, rfl⟩
  · rw [X_needLabel_bad c, bx_bad]; exact ⟨σ, rfl, h⟩
  · rw [X_needLabel_ok hs, bx_ok, X_needLabel_bad (hb.resolve_left (nbad hs (by omega))), bx_bad]; exact ⟨σ, rfl, h⟩
/-! the reference -/
theorem ss_ss {τ : SX} {k : Nat} {v w : Int32} : ss (ss τ k v) k w = ss τ k w := by
  refine Prod.ext (funext fun j => ?_) rfl
  show upd (upd τ.1 k v) k w j = upd τ.1 k w j
  unfold upd
  by_cases c : j = k
  · rw [if_pos c, if_pos c]
  · rw [if_neg c, if_neg c, if_neg c]
theorem cntS_s {T : TT} {a k : Nat} : cntS T a (k + 1) = cntS T a k + b2n (hasS T a k) := rfl
theorem M_rename2 {τ : SX} {n : Nat} {T : TT} (hT : Sys n T) (h : MB τ n T) {a b : Nat} (ha : a < 6) (hb : b < 6) (x : Int32) :
    ∃ τ', loopF FU (bd_X4_rename_95 (nI a) (nI b) x) (fun _ _ => none) 0 τ = some (x, τ') ∧ MI τ' n (renS n T a b) none ∧ τ'.1 0 = τ.1 0 := by
  have hn := hT.2.1
  unfold renS
  by_cases c : a = b
  · subst c
    rw [if_pos rfl]
    obtain ⟨τ1, e1, i1, t1, -⟩ := M_change h
    refine ⟨τ1, ?_, i1, t1⟩
    show bd_X4_rename_95 (nI a) (nI a) x _ 0 τ = _
    unfold bd_X4_rename_95
    simp only [letb]
    rw [e1]
    split <;> rfl
  · rw [if_neg c]
    refine loop_rel (body := bd_X4_rename_95 (nI a) (nI b) x) (bot := fun _ _ => none) (fun i (τ : SX) g => g (nI i) τ) n (fun i τ' => MB τ' n (renT T a b i) ∧ τ'.1 0 = τ.1 0) (fun o => ∃ τ', o = some (x, τ') ∧ MI τ' n (renT T a b n) none ∧ τ'.1 0 = τ.1 0) ?_ ?_ FU 0 τ (Nat.zero_le _) (by unfold FU; omega) ⟨by rw [renT_0]; exact h, rfl⟩
    · intro rec i τ1 hi hI hk
      obtain ⟨h1, t1⟩ := hI
      have h0 : renT T a b i a i = T a i := renT_at (Nat.le_refl i)
      rw [bd_X4_rename_95]
      simp only [letb]
      rw [h1.1, if_neg (nI_ge hi (by omega)), if_neg (nI_ne (by omega) (by omega) c), M_to h1 (by omega) ha, Option.bind_some, h0, nI_1]
      by_cases d : T a i = none
      · rw [if_neg (fun q => q ((enc_none hT).mpr d))]
        exact hk τ1 ⟨by rw [renT_skip d]; exact h1, t1⟩
      · rw [if_pos (fun q => d ((enc_none hT).mp q)), Option.bind_some, ix, ix, as_nI (by omega) (by decide), Option.bind_some, as_nI (by omega) (by decide), Option.bind_some]
        exact hk _ ⟨by rw [renT_step c d]; exact (h1.put (s := i) (o := T a i) hb).put (s := i) (o := none) ha, t1⟩
    · intro rec τ1 hI
      obtain ⟨h1, t1⟩ := hI
      rw [bd_X4_rename_95]
      simp only [letb]
      obtain ⟨τ2, e2, i2, t2, -⟩ := M_change h1
      rw [h1.1, if_pos (nI_le (Nat.le_refl n) (by omega)), e2]
      exact ⟨τ2, rfl, i2, t2.trans t1⟩
theorem cntS_le (T : TT) (a k : Nat) : cntS T a k ≤ k := by
  induction k with
  | zero => exact Nat.le_refl 0
  | succ k ih =>
    rw [cntS_s]
    have : b2n (hasS T a k) ≤ 1 := by cases hasS T a k <;> decide
    omega
/-- the answer of the reference's first pass -/
theorem M_rename1 {τ : SX} {n : Nat} {T : TT} {mk : Option Nat} (hT : Sys n T) (h : MI τ n T mk) {a b : Nat} (ha : a < 6) (hb : b < 6) (Post : Option (Int32 × SX) → Prop)
    (hend : ∀ rec, Post (bd_X4_rename_30 (nI a) (nI b) rec (nI (cntS T a n)) (nI n) (ss τ 0 (if a ≠ b ∧ bothS T a b n = true then 2 else 0)))) :
    Post (loopF FU (bd_X4_rename_30 (nI a) (nI b)) (fun _ _ _ => none) 0 0 (ss τ 0 0)) := by
  have hn := hT.2.1
  refine loop_rel (body := bd_X4_rename_30 (nI a) (nI b)) (bot := fun _ _ _ => none) (fun i (τ : SX) g => g (nI (cntS T a i)) (nI i) τ) n (fun i τ' => τ' = ss τ 0 (if a ≠ b ∧ bothS T a b i = true then 2 else 0)) Post ?_ ?_ FU 0 (ss τ 0 0) (Nat.zero_le _) (by unfold FU; omega) (by
    rw [if_neg (fun q => by have := q.2; cases this)])
  · intro rec i τ1 hi hI hk
    subst hI
    have h1 := (h.th (if a ≠ b ∧ bothS T a b i = true then 2 else 0)).1
    rw [bd_X4_rename_30]
    simp only [letb]
    rw [h1.1, if_neg (nI_ge hi (by omega)), M_to h1 (by omega) ha, Option.bind_some, nI_1, nI_1]
    have hb1 : bothS T a b (i + 1) = (bothS T a b i || (hasS T a i && hasS T b i)) := anyB_succ
    by_cases d : T a i = none
    · rw [if_neg (fun q => q ((enc_none hT).mpr d))]
      have e0 := hasS_f.mpr d
      have := hk (ss τ 0 (if a ≠ b ∧ bothS T a b i = true then 2 else 0)) (by rw [hb1, e0, Bool.false_and, Bool.or_false])
      rw [cntS_s, e0] at this
      exact this
    · rw [if_pos (fun q => d ((enc_none hT).mp q))]
      have e0 := hasS_t.mpr d
      have hk' : ∀ x', x' = ss τ 0 (if a ≠ b ∧ bothS T a b (i + 1) = true then 2 else 0) → Post (rec (nI (cntS T a i + 1)) (nI (i + 1)) x') := fun x' hx' => by
        have := hk x' hx'
        rw [cntS_s, e0] at this
        exact this
      by_cases c : a = b
      · subst c
        rw [if_pos (show nI a = nI a from rfl)]
        exact hk' _ (by rw [if_neg (fun q => q.1 rfl), if_neg (fun q => q.1 rfl)])
      · rw [if_neg (nI_ne (by omega) (by omega) c), M_to h1 (by omega) hb, Option.bind_some]
        by_cases d2 : T b i = none
        · rw [if_pos ((enc_none hT).mpr d2)]
          exact hk' _ (by rw [hb1, hasS_f.mpr d2, Bool.and_false, Bool.or_false])
        · rw [if_neg (fun q => d2 ((enc_none hT).mp q))]
          refine hk' _ ?_
          rw [hb1, e0, hasS_t.mpr d2, if_pos (show a ≠ b ∧ (bothS T a b i || true && true) = true from ⟨c, by cases bothS T a b i <;> rfl⟩)]
          exact ss_ss
  · intro rec x hx
    subst hx
    exact hend rec
theorem M_rename_ok {τ : SX} {n : Nat} {T : TT} {mk : Option Nat} (hT : Sys n T) (h : MI τ n T mk) {a b : Nat} (ha : a < 6) (hb : b < 6) (hc : a = b ∨ bothS T a b n = false) : MOk (fn_X4_rename τ (nI a) (nI b)) n (renS n T a b) none (nI (cntS T a n)) := by
  have hn := hT.2.1
  unfold fn_X4_rename
  simp only [letb]
  rw [M_isLabel_ok ha, Option.bind_some, if_neg (show ¬ (1 : Int32) = 0 by decide), M_isLabel_ok hb, Option.bind_some, if_pos (show ¬ (1 : Int32) = 0 by decide)]
  refine M_rename1 hT h ha hb (fun o => MOk o n (renS n T a b) none (nI (cntS T a n))) (fun rec => ?_)
  rw [if_neg (fun q => hc.elim q.1 (fun z => by rw [z] at q; exact absurd q.2 (by decide)))]
  have h1 := (h.th 0).1
  rw [bd_X4_rename_30]
  simp only [letb]
  rw [h1.1, if_pos (nI_le (Nat.le_refl n) (by omega)), ss0, if_pos (show (0 : Int32) = 0 from rfl)]
  obtain ⟨τ1, e1, i1, t1⟩ := M_rename2 hT h1 ha hb (nI (cntS T a n))
  exact ⟨τ1, e1, i1, t1.trans ss0⟩
theorem M_rename_both {τ : SX} {n : Nat} {T : TT} {mk : Option Nat} (hT : Sys n T) (h : MI τ n T mk) {a b : Nat} (ha : a < 6) (hb : b < 6) (hab : a ≠ b) (hc : bothS T a b n = true) : MBad (fn_X4_rename τ (nI a) (nI b)) n T mk 2 := by
  have hn := hT.2.1
  unfold fn_X4_rename
  simp only [letb]
  rw [M_isLabel_ok ha, Option.bind_some, if_neg (show ¬ (1 : Int32) = 0 by decide), M_isLabel_ok hb, Option.bind_some, if_pos (show ¬ (1 : Int32) = 0 by decide)]
  refine M_rename1 hT h ha hb (fun o => MBad o n T mk 2) (fun rec => ?_)
  rw [if_pos ⟨hab, hc⟩]
  have h1 := (h.th 2).1
  rw [bd_X4_rename_30, h1.1, if_pos (nI_le (Nat.le_refl n) (by omega)), ss0, if_neg (show ¬ (2 : Int32) = 0 by decide)]
  exact ⟨0, _, rfl, h.th 2, ss0⟩
theorem M_rename_bad {τ : SX} {n : Nat} {T : TT} {mk : Option Nat} (hT : Sys n T) (h : MI τ n T mk) {x y : Int32} (hb : bad 6 x ∨ bad 6 y) : MBad (fn_X4_rename τ x y) n T mk 1 := by
  unfold fn_X4_rename
  simp only [letb]
  have f := M_fail (h.th 0) 1
  rcases ok_bad 6 x (by omega) with c | ⟨s, hs, rfl⟩
  · rw [M_isLabel_bad c, Option.bind_some, if_pos (show (0 : Int32) = 0 from rfl)]; exact f
  · rw [M_isLabel_ok hs, Option.bind_some, if_neg (show ¬ (1 : Int32) = 0 by decide), M_isLabel_bad (hb.resolve_left (nbad hs (by omega))), Option.bind_some, if_neg (show ¬ ¬ (0 : Int32) = 0 from fun q => q rfl)]; exact f
