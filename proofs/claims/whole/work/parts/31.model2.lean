/-! 31: the reference: reached states, growing, pairs -/
def go (T : TT) (a : Nat) : Nat := a ||| nxt T a
theorem anyB_swap {N M : Nat} {p : Nat → Nat → Bool} : (anyB N fun i => anyB M fun j => p i j) = anyB M fun j => anyB N fun i => p i j := by
  apply bool_iff
  rw [anyB_iff, anyB_iff]
  constructor
  · rintro ⟨i, hi, h⟩
    obtain ⟨j, hj, h2⟩ := anyB_iff.mp h
    exact ⟨j, hj, anyB_iff.mpr ⟨i, hi, h2⟩⟩
  · rintro ⟨j, hj, h⟩
    obtain ⟨i, hi, h2⟩ := anyB_iff.mp h
    exact ⟨i, hi, anyB_iff.mpr ⟨j, hj, h2⟩⟩
theorem M_goOn {τ : SX} {n : Nat} {T : TT} (hT : Sys n T) (h : MB τ n T) {a : Nat} (ha : a < 2 ^ 12) : fn_X4_goOn τ (nI a) = some (nI (go T a)) := by
  have hn := hT.2.1
  unfold fn_X4_goOn
  simp only [letb]
  have e0 : nI a = nI (mask 12 fun t => a.testBit t || anyB 0 fun s => anyB 6 fun l => (T l s == some t) && a.testBit s) := by
    congr 1
    simp only [anyB_0, Bool.or_false]
    exact (mask_self ha).symm
  have e9 : go T a = mask 12 fun t => a.testBit t || anyB 12 fun s => anyB 6 fun l => (T l s == some t) && a.testBit s := by
    unfold go nxt
    have h1 := mask_self ha
    rw [← h1, mask_or]
    rw [h1]
    refine mask_congr fun t _ => ?_
    rw [anyB_swap]
  have main := loop_0m (body := bd_X4_goOn_4 τ (nI a)) (bot := fun _ _ => none) (fun i g => g (nI (mask 12 fun t => a.testBit t || anyB i fun s => anyB 6 fun l => (T l s == some t) && a.testBit s)) (nI i)) n (some (nI (go T a))) (by unfold FU; omega)
    (fun rec s hs => by
      rw [bd_X4_goOn_4, h.1, if_neg (nI_ge hs (by omega))]
      simp only [letb]
      have h2 := loop_0m (body := bd_X4_goOn_15 τ (nI a) rec (nI s)) (bot := fun _ _ => none) (fun i g => g (nI (mask 12 fun t => (a.testBit t || anyB s fun s => anyB 6 fun l => (T l s == some t) && a.testBit s) || anyB i fun l => (T l s == some t) && a.testBit s)) (nI i)) 6
        (rec (nI (mask 12 fun t => a.testBit t || anyB (s + 1) fun s => anyB 6 fun l => (T l s == some t) && a.testBit s)) (nI (s + 1))) (by decide)
        (fun rec2 l hl => by
          rw [bd_X4_goOn_15, if_neg (show ¬ (6 : Int32) ≤ nI l from nI_ge hl (by decide)), M_has (by omega) (by omega), Option.bind_some]
          simp only [letb]
          rw [nI_1, M_to h (by omega) hl]
          simp only [Option.bind_some]
          cases eb : a.testBit s with
          | false =>
            rw [if_pos b2iF]
            congr 2
            refine mask_congr fun k _ => ?_
            rw [anyB_succ]; simp
          | true =>
            rw [if_neg b2iT]
            cases e : T l s with
            | none =>
              rw [if_pos (show enc none = -1 from rfl)]
              congr 2
              refine mask_congr fun k _ => ?_
              rw [anyB_succ, e]; simp
            | some t =>
              have ht := (hT.2.2 l s t e).2.2
              rw [if_neg (show ¬ enc (some t) = -1 from i_neg1 (by omega)), show enc (some t) = nI t from rfl, mask_add (by omega) (by decide)]
              congr 2
              refine mask_congr fun k _ => ?_
              rw [anyB_succ, e, beq_some k t]
              simp only [Bool.and_true, Bool.or_assoc])
        (fun rec2 => by
          rw [bd_X4_goOn_15, if_pos (show (6 : Int32) ≤ nI 6 from nI_le (Nat.le_refl 6) (by decide))]
          simp only [letb]
          rw [nI_1]
          congr 2
          refine mask_congr fun k _ => ?_
          rw [anyB_succ (N := s), Bool.or_assoc])
      refine Eq.trans ?_ h2
      simp only [anyB_0, Bool.or_false]
      rfl)
    (fun rec => by
      rw [bd_X4_goOn_4, h.1, if_pos (nI_le (Nat.le_refl n) (by omega)), e9]
      congr 2
      refine mask_congr fun k _ => ?_
      congr 1
      exact anyB_cut hn (fun s hs => anyB_false fun l _ => by rw [hT.none hs]; rfl))
  refine Eq.trans ?_ main
  show loopF FU (bd_X4_goOn_4 τ (nI a)) (fun _ _ => none) (nI a) 0 = loopF FU (bd_X4_goOn_4 τ (nI a)) (fun _ _ => none) (nI (mask 12 fun t => a.testBit t || anyB 0 fun s => anyB 6 fun l => (T l s == some t) && a.testBit s)) 0
  rw [← e0]
/-! sets that grow come to an end -/
def subn (a b : Nat) : Prop := ∀ t, a.testBit t = true → b.testBit t = true
theorem pc_mono {a b : Nat} (h : subn a b) : pc a ≤ pc b := by
  rw [pc_sum, pc_sum]
  exact sumN_mono fun k _ => b2n_mono (h k)
theorem pc_lt {a b : Nat} (h : subn a b) (ha : a < 2 ^ 12) (hb : b < 2 ^ 12) (hne : a ≠ b) : pc a < pc b := by
  have h1 := pc_mono h
  rcases Nat.lt_or_ge (pc a) (pc b) with g | g
  · exact g
  · exfalso
    apply hne
    have e : pc a = pc b := by omega
    rw [pc_sum, pc_sum] at e
    have e2 := (sumN_eq fun k _ => b2n_mono (h k)).mp e
    apply Nat.eq_of_testBit_eq
    intro k
    by_cases hk : k < 12
    · exact b2n_eq.mp (e2 k hk)
    · rw [bit_hi ha (by omega), bit_hi hb (by omega)]
theorem subn_or (a b : Nat) : subn a (a ||| b) := fun t h => by rw [Nat.testBit_or, h]; rfl
theorem pc_n {a n : Nat} (hn : n ≤ 12) (ha : a < 2 ^ n) : pc a ≤ n := by
  rw [pc_sum, ← sumN_cut hn (fun k hk => by rw [bit_hi ha hk]; rfl)]
  have := sumN_le (g := fun k => b2n (a.testBit k)) (c := 1) (N := n) (fun k _ => b2n_le _)
  omega
theorem nxt_n {n : Nat} {T : TT} (hT : Sys n T) (a : Nat) : nxt T a < 2 ^ n := lt_of_bits fun k hk => by
  unfold nxt
  rw [mask_bit, anyB_false, Bool.and_false]
  intro l _
  refine anyB_false fun s _ => ?_
  rw [Bool.eq_false_iff]
  intro h
  simp only [Bool.and_eq_true, beq_iff_eq] at h
  have := (hT.2.2 l s k h.1).2.2
  omega
theorem rch_n {n : Nat} {T : TT} (hT : Sys n T) : ∀ k, rch T k < 2 ^ n
  | 0 => by
    have : 2 ^ 1 ≤ 2 ^ n := Nat.pow_le_pow_right (by decide) hT.1
    show 1 < 2 ^ n
    omega
  | k + 1 => Nat.or_lt_two_pow (rch_n hT k) (nxt_n hT _)
theorem rch_pc {n : Nat} {T : TT} : ∀ k, (∀ j, j < k → rch T (j + 1) ≠ rch T j) → k + 1 ≤ pc (rch T k)
  | 0, _ => by show 1 ≤ pc 1; decide
  | k + 1, h => by
    have ih := rch_pc (n := n) (T := T) k (fun j hj => h j (by omega))
    have := pc_lt (subn_or (rch T k) (nxt T (rch T k))) (rch_lt T k) (rch_lt T (k + 1)) (fun e => h k (by omega) e.symm)
    show k + 1 + 1 ≤ pc (rch T k ||| nxt T (rch T k))
    omega
theorem rch_fix {T : TT} {k : Nat} (h : rch T (k + 1) = rch T k) : ∀ j, rch T (k + j) = rch T k
  | 0 => rfl
  | j + 1 => by
    show rch T (k + j) ||| nxt T (rch T (k + j)) = _
    rw [rch_fix h j]
    exact h
theorem rch_end {n : Nat} {T : TT} (hT : Sys n T) : ∃ k, k < n ∧ rch T (k + 1) = rch T k ∧ (∀ j, j < k → rch T (j + 1) ≠ rch T j) ∧ ∀ j, k ≤ j → rch T j = rch T k := by
  have hn := hT.2.1
  cases e : fnd n (fun k => rch T (k + 1) == rch T k) with
  | none =>
    exfalso
    have h1 := rch_pc (n := n) (T := T) n (fun j hj => by simpa using fnd_none e j hj)
    have h2 := pc_n hn (rch_n hT n)
    omega
  | some k =>
    obtain ⟨h1, h2, h3⟩ := fnd_some e
    have h2' : rch T (k + 1) = rch T k := by simpa using h2
    refine ⟨k, h1, h2', fun j hj => by simpa using h3 j hj, fun j hj => ?_⟩
    have := rch_fix h2' (j - k)
    rw [show k + (j - k) = j by omega] at this
    exact this
theorem M_reachedL {τ : SX} {n : Nat} {T : TT} (hT : Sys n T) (h : MB τ n T) : loopF FU (bd_X4_reached_7 τ) (fun _ => none) 1 = some (nI (rch T (n - 1)), τ) := by
  obtain ⟨k, h1, h2, h3, h4⟩ := rch_end hT
  have hn := hT.2.1
  rw [h4 (n - 1) (by omega)]
  refine loop_0m (body := bd_X4_reached_7 τ) (bot := fun _ => none) (fun i g => g (nI (rch T i))) k _ (by unfold FU; omega) ?_ ?_
  · intro rec i hi
    have b := rch_lt T i
    have b2 := rch_lt T (i + 1)
    rw [bd_X4_reached_7, M_goOn hT h b, Option.bind_some, if_neg (show ¬ nI (go T (rch T i)) = nI (rch T i) from nI_ne (a := rch T (i + 1)) (by omega) (by omega) (h3 i hi)), Option.bind_some]
    rfl
  · intro rec
    have b := rch_lt T k
    rw [bd_X4_reached_7, M_goOn hT h b, Option.bind_some, if_pos (show nI (go T (rch T k)) = nI (rch T k) from congrArg nI h2)]
theorem dist_12 {n : Nat} {T : TT} (hT : Sys n T) (t : Nat) : fnd 12 (fun k => (rch T k).testBit t) = distS T n t := by
  obtain ⟨k, h1, h2, h3, h4⟩ := rch_end hT
  have hn := hT.2.1
  unfold distS
  cases e : fnd n (fun k => (rch T k).testBit t) with
  | some j =>
    obtain ⟨g1, g2, g3⟩ := fnd_some e
    exact fnd_of (by omega) g2 g3
  | none =>
    refine fnd_of_none fun q hq => ?_
    by_cases c : q < n
    · exact fnd_none e q c
    · show (rch T q).testBit t = false
      rw [h4 q (by omega), ← h4 (n - 1) (by omega)]
      exact fnd_none e (n - 1) (by have := hT.1; omega)
theorem M_distanceL {τ : SX} {n : Nat} {T : TT} (hT : Sys n T) (h : MB τ n T) {t : Nat} (ht : t < 12) : loopF FU (bd_X4_distance_23 (nI t) τ) (fun _ _ => none) 1 0 = some (enc (distS T n t), τ) := by
  rw [← dist_12 hT]
  refine Eq.trans (loop_find (body := bd_X4_distance_23 (nI t) τ) (bot := fun _ _ => none) (fun i g => g (nI (rch T i)) (nI i)) 12 (fun k => (rch T k).testBit t) (fun i => some (nI i, τ)) (some (-1, τ)) (by decide) ?_ ?_ ?_) ?_
  · intro rec i hi hp
    have b := rch_lt T i
    rw [bd_X4_distance_23, if_neg (show ¬ (12 : Int32) ≤ nI i from nI_ge hi (by decide)), M_has (by omega) (by omega), Option.bind_some, hp, if_pos b2iF, M_goOn hT h b, Option.bind_some]
    simp only [letb]
    rw [nI_1]; rfl
  · intro rec i hi hp
    have b := rch_lt T i
    rw [bd_X4_distance_23, if_neg (show ¬ (12 : Int32) ≤ nI i from nI_ge hi (by decide)), M_has (by omega) (by omega), Option.bind_some, hp, if_neg b2iT]
  · intro rec
    rw [bd_X4_distance_23, if_pos (show (12 : Int32) ≤ nI 12 from nI_le (Nat.le_refl 12) (by decide))]
  · cases fnd 12 (fun k => (rch T k).testBit t) <;> rfl
theorem M_ends1 {τ : SX} {n : Nat} {T : TT} (hT : Sys n T) (h : MB τ n T) {l : Nat} (hl : l < 6) : fn_X4_ends τ (nI l) 1 = some (nI (src T l fun _ => true)) := by
  have hn := hT.2.1
  unfold fn_X4_ends
  simp only [letb]
  refine loop_0m (body := bd_X4_ends_5 τ (nI l) 1) (bot := fun _ _ => none) (fun i g => g (nI (mask i fun s => tob (T l s) fun _ => true)) (nI i)) n _ (by unfold FU; omega) ?_ ?_
  · intro rec s hs
    rw [bd_X4_ends_5, h.1, if_neg (nI_ge hs (by omega)), M_to h (by omega) hl, Option.bind_some]
    simp only [letb]
    rw [nI_1, if_neg (show ¬ (1 : Int32) = 0 by decide)]
    cases e : T l s with
    | none => rw [if_pos (show enc none = -1 from rfl), mask_skip (by rw [e]; rfl)]
    | some t =>
      have ht := (hT.2.2 l s t e).2.2
      rw [if_neg (show ¬ enc (some t) = -1 from i_neg1 (by omega)), mask_step (P := fun s => tob (T l s) fun _ => true) (by omega) (by rw [e]; rfl)]
  · intro rec
    rw [bd_X4_ends_5, h.1, if_pos (nI_le (Nat.le_refl n) (by omega))]
    congr 2
    apply Nat.eq_of_testBit_eq
    intro k
    rw [src, mask_bit, mask_bit]
    by_cases hk : k < n
    · rw [decide_eq_true hk, decide_eq_true (show k < 12 by omega)]
    · rw [hT.none (show n ≤ k by omega)]; simp [tob]
theorem M_ends0 {τ : SX} {n : Nat} {T : TT} (hT : Sys n T) (h : MB τ n T) {l : Nat} (hl : l < 6) : fn_X4_ends τ (nI l) 0 = some (nI (endS T l)) := by
  have hn := hT.2.1
  unfold fn_X4_ends
  simp only [letb]
  have e0 : (0 : Int32) = nI (mask 12 fun t => anyB 0 fun s => T l s == some t) := by
    rw [show (mask 12 fun t => anyB 0 fun s => T l s == some t) = 0 from mask_0]; rfl
  have main := loop_0m (body := bd_X4_ends_5 τ (nI l) 0) (bot := fun _ _ => none) (fun i g => g (nI (mask 12 fun t => anyB i fun s => T l s == some t)) (nI i)) n (some (nI (endS T l))) (by unfold FU; omega)
    (fun rec s hs => by
      rw [bd_X4_ends_5, h.1, if_neg (nI_ge hs (by omega)), M_to h (by omega) hl, Option.bind_some]
      simp only [letb]
      rw [nI_1, if_pos trivial, Option.bind_some]
      cases e : T l s with
      | none =>
        rw [if_pos (show enc none = -1 from rfl)]
        congr 2
        refine mask_congr fun k _ => ?_
        rw [anyB_succ, e]; simp
      | some t =>
        have ht := (hT.2.2 l s t e).2.2
        rw [if_neg (show ¬ enc (some t) = -1 from i_neg1 (by omega)), show enc (some t) = nI t from rfl, mask_add (by omega) (by decide)]
        congr 2
        refine mask_congr fun k _ => ?_
        rw [anyB_succ, e]
        congr 1
        exact beq_some _ _)
    (fun rec => by
      rw [bd_X4_ends_5, h.1, if_pos (nI_le (Nat.le_refl n) (by omega))]
      congr 2
      refine mask_congr fun k _ => ?_
      exact anyB_cut hn (fun s hs => by rw [hT.none hs]; rfl))
  refine Eq.trans ?_ main
  show loopF FU (bd_X4_ends_5 τ (nI l) 0) (fun _ _ => none) 0 0 = loopF FU (bd_X4_ends_5 τ (nI l) 0) (fun _ _ => none) (nI (mask 12 fun t => anyB 0 fun s => T l s == some t)) 0
  rw [← e0]
/-! growing -/
theorem src_sub {T : TT} {l : Nat} {P : Nat → Bool} {s : Nat} : (src T l P).testBit s = (decide (s < 12) && tob (T l s) P) := mask_bit _ _ _
theorem endS_bit {T : TT} {l t : Nat} : (endS T l).testBit t = (decide (t < 12) && anyB 12 fun s => T l s == some t) := mask_bit _ _ _
theorem grow_new {n : Nat} {T : TT} (hT : Sys n T) {a l : Nat} (h : mixS T a = some l) : a ||| growth T a l ≠ a := by
  have hn := hT.2.1
  have hw : wayS T l a = 3 := by simpa using (fnd_some h).2.1
  have h0 : ¬ allS T l (fun s t => a.testBit s == a.testBit t) = true := fun q => by unfold wayS at hw; rw [if_pos q] at hw; cases hw
  have h2 : ¬ allS T l (fun s t => a.testBit s && !a.testBit t) = true := fun q => by
    unfold wayS at hw
    rw [if_neg h0] at hw
    by_cases c : allS T l (fun s t => !a.testBit s && a.testBit t) = true
    · rw [if_pos c] at hw; cases hw
    · rw [if_neg c, if_pos q] at hw; cases hw
  intro e
  have hsub : ∀ t, (growth T a l).testBit t = true → a.testBit t = true := fun t ht => by rw [← e, Nat.testBit_or, ht, Bool.or_true]
  have begs : ∀ {s t}, T l s = some t → (src T l fun _ => true).testBit s = true := fun {s t} q => by
    rw [src_sub, q, decide_eq_true (by have := (hT.2.2 l s t q).2.1; omega)]; rfl
  have ends : ∀ {s t}, T l s = some t → (endS T l).testBit t = true := fun {s t} q => by
    have := hT.2.2 l s t q
    rw [endS_bit, decide_eq_true (by omega), Bool.true_and]
    exact anyB_iff.mpr ⟨s, by omega, by rw [q]; simp⟩
  unfold growth at hsub
  by_cases c1 : (src T l (fun _ => true) &&& a ≠ 0) ∧ src T l a.testBit = 0
  · rw [if_pos c1] at hsub
    apply h2
    rw [allS_iff]
    intro s hs t q
    have e1 := hsub s (begs q)
    have e2 : a.testBit t = false := by
      have := congrArg (fun x => x.testBit s) c1.2
      simp only [src_sub, Nat.zero_testBit, q, decide_eq_true hs, Bool.true_and, tob] at this
      exact this
    rw [e1, e2]; rfl
  · rw [if_neg c1] at hsub
    apply h0
    rw [allS_iff]
    intro s hs t q
    by_cases c3 : ndf (endS T l) a = 0
    · rw [if_pos c3] at hsub
      have e1 := hsub s (begs q)
      have e2 : a.testBit t = true := sub_iff.mp (show sub (endS T l) a = true by unfold sub; rw [c3]; rfl) t (ends q)
      rw [e1, e2]; rfl
    · rw [if_neg c3] at hsub
      exfalso
      apply c3
      apply Nat.eq_of_testBit_eq
      intro k
      rw [ndf_bit, Nat.zero_testBit]
      cases ek : (endS T l).testBit k with
      | false => rfl
      | true => rw [hsub k ek]; rfl
theorem growK_pc {n : Nat} {T : TT} (hT : Sys n T) {a : Nat} (ha : a < 2 ^ 12) : ∀ k, (∀ j, j < k → mixS T (growK T a j) ≠ none) → k ≤ pc (growK T a k)
  | 0, _ => Nat.zero_le _
  | k + 1, h => by
    have ih := growK_pc hT ha k (fun j hj => h j (by omega))
    have hk := h k (by omega)
    cases e : mixS T (growK T a k) with
    | none => exact absurd e hk
    | some l =>
      have e1 : growK T a (k + 1) = growK T a k ||| growth T (growK T a k) l := by
        show grow1 T (growK T a k) = _
        rw [grow1, e]
      have := pc_lt (subn_or (growK T a k) (growth T (growK T a k) l)) (growK_lt ha k) (by rw [← e1]; exact growK_lt ha (k + 1)) (fun q => grow_new hT e q.symm)
      rw [e1]
      omega
theorem ob_of {o : Option Nat} (h : (o == none) = false) : o ≠ none := fun q => by rw [q] at h; cases h
theorem growK_end {n : Nat} {T : TT} (hT : Sys n T) {a : Nat} (ha : a < 2 ^ 12) : ∃ k, k ≤ 12 ∧ mixS T (growK T a k) = none ∧ (∀ j, j < k → mixS T (growK T a j) ≠ none) ∧ growK T a 12 = growK T a k := by
  cases e : fnd 13 (fun k => mixS T (growK T a k) == none) with
  | none =>
    exfalso
    have h1 := growK_pc hT ha 13 (fun j hj => ob_of (fnd_none e j hj))
    have h2 := pc_le (growK T a 13)
    omega
  | some k =>
    obtain ⟨h1, h2, h3⟩ := fnd_some e
    have h2' : mixS T (growK T a k) = none := by simpa using h2
    refine ⟨k, by omega, h2', fun j hj => ob_of (h3 j hj), ?_⟩
    have := growK_fix h2' (12 - k)
    rw [show k + (12 - k) = 12 by omega] at this
    exact this
theorem M_growL {τ : SX} {n : Nat} {T : TT} (hT : Sys n T) (h : MB τ n T) {a : Nat} (ha : a < 2 ^ 12) : loopF FU (bd_X4_grow_27 τ) (fun _ _ => none) (nI a) (enc (mixS T a)) = some (nI (growK T a 12), τ) := by
  obtain ⟨k, hk, h2, h3, h4⟩ := growK_end hT ha
  rw [h4]
  refine loop_0m (body := bd_X4_grow_27 τ) (bot := fun _ _ => none) (fun i g => g (nI (growK T a i)) (enc (mixS T (growK T a i)))) k _ (by unfold FU; omega) ?_ ?_
  · intro rec i hi
    have hm := h3 i hi
    have b := growK_lt (T := T) ha i
    have b1 := growK_lt (T := T) ha (i + 1)
    generalize hg : growK T a i = g at hm b
    have e1 : growK T a (i + 1) = grow1 T g := by rw [← hg]; rfl
    rw [e1] at b1 ⊢
    cases e : mixS T g with
    | none => exact absurd e hm
    | some l =>
      have hl := mixS_lt e
      have bE := endS_lt T l
      have bS := src_lt T l fun _ => true
      have a1 : src T l (fun _ => true) &&& g < 2 ^ 31 := Nat.lt_of_le_of_lt Nat.and_le_left (src_lt' _ _ _)
      have a2 : endS T l &&& g < 2 ^ 31 := Nat.lt_of_le_of_lt Nat.and_le_left (by omega)
      have a3 := ndf_lt (b := g) bE
      have eg : grow1 T g = g ||| growth T g l := by rw [grow1, e]
      rw [eg] at b1 ⊢
      rw [bd_X4_grow_27, show enc (some l) = nI l from rfl, if_neg (i_neg1 (by omega)), M_ends1 hT h hl, Option.bind_some]
      simp only [letb]
      rw [M_ends0 hT h hl, Option.bind_some, i_and (by omega) (by omega), i_and (by omega) (by omega), i_ndf (by omega) (by omega), i_or (by omega) (by omega), i_or (by omega) (by omega), if_pos trivial, if_neg (show ¬ (1 : Int32) = 0 by decide)]
      have s0 : endS T l &&& g = 0 ↔ src T l g.testBit = 0 := by
        constructor
        · intro q
          apply Nat.eq_of_testBit_eq
          intro s
          rw [src_sub, Nat.zero_testBit]
          cases et : T l s with
          | none => simp [tob]
          | some t =>
            have h5 := hT.2.2 l s t et
            have := congrArg (fun x => x.testBit t) q
            simp only [Nat.testBit_and, Nat.zero_testBit, endS_bit, decide_eq_true (show t < 12 by have := hT.2.1; omega), Bool.true_and] at this
            rw [anyB_iff.mpr ⟨s, by have := hT.2.1; omega, by rw [et]; simp⟩, Bool.true_and] at this
            simp [tob, this]
        · intro q
          apply Nat.eq_of_testBit_eq
          intro t
          rw [Nat.testBit_and, endS_bit, Nat.zero_testBit]
          cases et : (decide (t < 12) && anyB 12 fun s => T l s == some t) with
          | false => rfl
          | true =>
            simp only [Bool.and_eq_true] at et
            obtain ⟨s, hs, hst⟩ := anyB_iff.mp et.2
            have := congrArg (fun x => x.testBit s) q
            simp only [src_sub, decide_eq_true hs, Nat.zero_testBit, Bool.true_and] at this
            rw [show T l s = some t by simpa using hst] at this
            simp only [tob] at this
            rw [this]; rfl
      have T1 : growth T g l = src T l (fun _ => true) → (fn_X4_mixed τ (nI (g ||| src T l fun _ => true))).bind (fun v12 => rec (nI (g ||| src T l fun _ => true)) v12) = rec (nI (g ||| growth T g l)) (enc (mixS T (g ||| growth T g l))) := fun q => by
        rw [q] at b1 ⊢
        rw [M_mixed hT h b1]; rfl
      have T2 : growth T g l = endS T l → (fn_X4_mixed τ (nI (g ||| endS T l))).bind (fun v12 => rec (nI (g ||| endS T l)) v12) = rec (nI (g ||| growth T g l)) (enc (mixS T (g ||| growth T g l))) := fun q => by
        rw [q] at b1 ⊢
        rw [M_mixed hT h b1]; rfl
      have fin : (if ¬ nI (ndf (endS T l) g) = 0 then (fn_X4_mixed τ (nI (g ||| endS T l))).bind (fun v12 => rec (nI (g ||| endS T l)) v12) else (fn_X4_mixed τ (nI (g ||| src T l fun _ => true))).bind (fun v12 => rec (nI (g ||| src T l fun _ => true)) v12)) = rec (nI (g ||| growth T g l)) (enc (mixS T (g ||| growth T g l))) ∨ ((src T l (fun _ => true) &&& g ≠ 0) ∧ src T l g.testBit = 0) := by
        by_cases c : (src T l (fun _ => true) &&& g ≠ 0) ∧ src T l g.testBit = 0
        · exact Or.inr c
        · left
          by_cases c3 : ndf (endS T l) g = 0
          · rw [if_neg (fun q => q ((nI_z (by omega)).mpr c3))]
            exact T1 (by unfold growth; rw [if_neg c, if_pos c3])
          · rw [if_pos (fun q => c3 ((nI_z (by omega)).mp q))]
            exact T2 (by unfold growth; rw [if_neg c, if_neg c3])
      by_cases c1 : src T l (fun _ => true) &&& g = 0
      · rw [if_pos ((nI_z a1).mpr c1)]
        rcases fin with f | f
        · exact f
        · exact absurd c1 f.1
      · rw [if_neg (fun q => c1 ((nI_z a1).mp q))]
        by_cases c2 : endS T l &&& g = 0
        · rw [if_pos ((nI_z a2).mpr c2)]
          exact T1 (by unfold growth; rw [if_pos ⟨c1, s0.mp c2⟩])
        · rw [if_neg (fun q => c2 ((nI_z a2).mp q))]
          rcases fin with f | f
          · exact f
          · exact absurd (s0.mpr f.2) c2
  · intro rec
    rw [bd_X4_grow_27, h2, if_pos (show enc none = -1 from rfl)]
