/-! 33: the whole state of the reference, and its methods -/
def MNet (τ : SX) (n : Nat) (T : TT) (mk : Option Nat) : Prop := match mk with
  | none => τ.1 4 = 0
  | some m => τ.1 4 = 1 ∧ MPl τ (PL n T) ∧ MMk τ (ML n T) ∧ τ.1 6 = nI m ∧ m < 2 ^ 30
def MI (τ : SX) (n : Nat) (T : TT) (mk : Option Nat) : Prop := MB τ n T ∧ MKnown τ n T ∧ MNet τ n T mk
/-- an answer, and no throw; a throw -/
def MOk {α : Type} (o : Option (α × SX)) (n : Nat) (T : TT) (mk : Option Nat) (r : α) : Prop := ∃ τ', o = some (r, τ') ∧ MI τ' n T mk ∧ τ'.1 0 = 0
def MBad {α : Type} (o : Option (α × SX)) (n : Nat) (T : TT) (mk : Option Nat) (th : Int32) : Prop := ∃ v τ', o = some (v, τ') ∧ MI τ' n T mk ∧ τ'.1 0 = th
theorem MB.th {τ : SX} {n : Nat} {T : TT} (h : MB τ n T) {k : Nat} (hk : k ≠ 1) (v : Int32) : MB (ss τ k v) n T := ⟨(ss_ne (Ne.symm hk)).trans h.1, h.2⟩
theorem MI.th {τ : SX} {n : Nat} {T : TT} {mk : Option Nat} (h : MI τ n T mk) (v : Int32) : MI (ss τ 0 v) n T mk := by
  refine ⟨h.1.th (by decide) v, ?_, ?_⟩
  · rcases h.2.1 with q | ⟨q1, q2⟩
    · exact Or.inl ((ss_ne (by decide)).trans q)
    · exact Or.inr ⟨(ss_ne (by decide)).trans q1, (ss_ne (by decide)).trans q2.1, q2.2⟩
  · have h3 := h.2.2
    cases mk with
    | none => exact (ss_ne (by decide)).trans h3
    | some m => exact ⟨(ss_ne (by decide)).trans h3.1, ⟨(ss_ne (by decide)).trans h3.2.1.1, h3.2.1.2⟩, ⟨(ss_ne (by decide)).trans h3.2.2.1.1, h3.2.2.1.2⟩, (ss_ne (by decide)).trans h3.2.2.2.1, h3.2.2.2.2⟩
theorem MI.keepK {τ τ' : SX} {n : Nat} {T : TT} {mk : Option Nat} (h : MI τ n T mk) (hk : KeepK τ τ') (hn : MKnown τ' n T) : MI τ' n T mk := by
  refine ⟨h.1.keepK hk, hn, ?_⟩
  have h3 := h.2.2
  cases mk with
  | none => exact (hk.1 4 (by decide) (by decide)).trans h3
  | some m =>
    refine ⟨(hk.1 4 (by decide) (by decide)).trans h3.1, ⟨(hk.1 5 (by decide) (by decide)).trans h3.2.1.1, ?_⟩, ⟨(hk.1 7 (by decide) (by decide)).trans h3.2.2.1.1, ?_⟩, (hk.1 6 (by decide) (by decide)).trans h3.2.2.2.1, h3.2.2.2.2⟩
    · rw [hk.2 3 (by decide)]; exact h3.2.1.2
    · rw [hk.2 4 (by decide)]; exact h3.2.2.1.2
theorem ss0 {τ : SX} {v : Int32} : (ss τ 0 v).1 0 = v := ss_self
theorem M_fail {τ : SX} {n : Nat} {T : TT} {mk : Option Nat} (h : MI τ n T mk) (v : Int32) : MBad (bind2 (fn_X4_fail τ v) fun v4 σ3 => some (v4, σ3)) n T mk v := ⟨0, ss τ 0 v, rfl, h.th v, ss0⟩
theorem M_change {τ : SX} {n : Nat} {T : TT} (h : MB τ n T) : ∃ τ', fn_X4_change τ = some τ' ∧ MI τ' n T none ∧ τ'.1 0 = τ.1 0 ∧ τ'.1 1 = τ.1 1 := by
  unfold fn_X4_change
  simp only [letb]
  exact ⟨_, rfl, ⟨(h.th (by decide) _).th (by decide) _, Or.inl (by rw [ss_ne (by decide), ss_self]), ss_self⟩, by rw [ss_ne (by decide), ss_ne (by decide)], by rw [ss_ne (by decide), ss_ne (by decide)]⟩
theorem Sys.succ {n : Nat} {T : TT} (h : Sys n T) (hn : n < 12) : Sys (n + 1) T := ⟨by omega, by omega, fun l s t e => by have := h.2.2 l s t e; omega⟩
theorem M_addState_ok {τ : SX} {n : Nat} {T : TT} {mk : Option Nat} (hT : Sys n T) (h : MI τ n T mk) (hn : n < 12) : MOk (fn_X4_addState τ) (n + 1) T none (nI n) := by
  unfold fn_X4_addState
  simp only [letb]
  have h1 := (h.th 0).1
  rw [h1.1, if_pos (show ¬ nI n = 12 from nI_ne (b := 12) (by omega) (by decide) (by omega)), nI_1]
  have h2 : MB (ss (ss τ 0 0) 1 (nI (n + 1))) (n + 1) T := ⟨ss_self, h1.2⟩
  obtain ⟨τ1, e1, i1, t1, s1⟩ := M_change h2
  rw [e1, Option.bind_some]
  refine ⟨τ1, ?_, i1, ?_⟩
  · rw [i1.1.1, show (1 : Int32) = nI 1 from rfl, pk_sub (by omega)]; rfl
  · rw [t1, ss_ne (by decide), ss_self]
theorem M_addState_bad {τ : SX} {n : Nat} {T : TT} {mk : Option Nat} (h : MI τ n T mk) (hn : n = 12) : MBad (fn_X4_addState τ) n T mk 1 := by
  unfold fn_X4_addState
  simp only [letb]
  have h1 := h.th 0
  rw [h1.1.1, hn, if_neg (show ¬ ¬ nI 12 = 12 from fun q => q rfl)]
  rw [hn] at h1
  exact M_fail h1 1
theorem ix (s l : Nat) : 6 * nI s + nI l = nI (6 * s + l) := by rw [show (6 : Int32) = nI 6 from rfl, pk_mul, nI_add]
theorem MB.put {τ : SX} {n : Nat} {T : TT} (h : MB τ n T) {s l : Nat} {o : Option Nat} (hl : l < 6) : MB (sa τ 1 (6 * s + l) (enc o)) n (upT T l s o) := by
  refine ⟨h.1, fun s' l' hs' hl' => ?_⟩
  rw [sa_self]
  by_cases c : l' = l ∧ s' = s
  · obtain ⟨rfl, rfl⟩ := c
    rw [if_pos rfl, upT_self]
  · rw [if_neg (by omega), upT_ne c]; exact h.2 s' l' hs' hl'
theorem M_step_ok {τ : SX} {n : Nat} {T : TT} {mk : Option Nat} (hT : Sys n T) (h : MI τ n T mk) {s l t : Nat} (hs : s < n) (hl : l < 6) (ht : t < n) : MOk (fn_X4_step τ (nI s) (nI l) (nI t)) n (upT T l s (some t)) none (enc (T l s)) := by
  have hn := hT.2.1
  unfold fn_X4_step
  simp only [letb]
  have h1 := (h.th 0).1
  rw [M_isState_ok hT h1 hs, Option.bind_some, if_neg (show ¬ (1 : Int32) = 0 by decide), M_isLabel_ok hl, Option.bind_some, if_neg (show ¬ (1 : Int32) = 0 by decide), M_isState_ok hT h1 ht, Option.bind_some, if_pos (show ¬ (1 : Int32) = 0 by decide), M_to h1 (by omega) hl, Option.bind_some, ix, as_nI (by omega) (by decide), Option.bind_some]
  obtain ⟨τ1, e1, i1, t1, -⟩ := M_change (h1.put (s := s) (o := some t) hl)
  rw [show nI t = enc (some t) from rfl, e1, Option.bind_some]
  exact ⟨τ1, rfl, i1, by rw [t1, sa1, ss_self]⟩
theorem M_step_bad {τ : SX} {n : Nat} {T : TT} {mk : Option Nat} (hT : Sys n T) (h : MI τ n T mk) {x y z : Int32} (hb : bad n x ∨ bad 6 y ∨ bad n z) : MBad (fn_X4_step τ x y z) n T mk 1 := by
  have hn := hT.2.1
  unfold fn_X4_step
  simp only [letb]
  have h1 := h.th 0
  have f := M_fail h1 1
  rcases ok_bad n x (by omega) with c | ⟨s, hs, rfl⟩
  · rw [M_isState_bad h1.1 c, Option.bind_some, if_pos rfl]; exact f
  · rw [M_isState_ok hT h1.1 hs, Option.bind_some, if_neg (show ¬ (1 : Int32) = 0 by decide)]
    rcases ok_bad 6 y (by omega) with c | ⟨l, hl, rfl⟩
    · rw [M_isLabel_bad c, Option.bind_some, if_pos rfl]; exact f
    · rw [M_isLabel_ok hl, Option.bind_some, if_neg (show ¬ (1 : Int32) = 0 by decide)]
      rcases ok_bad n z (by omega) with c | ⟨t, ht, rfl⟩
      · rw [M_isState_bad h1.1 c, Option.bind_some, if_neg (show ¬ ¬ (0 : Int32) = 0 from fun q => q rfl)]; exact f
      · exfalso
        rcases hb with q | q | q
        · exact (fun q => q.elim (nI_pos (by omega)) (nI_ge hs (by omega))) q
        · exact (fun q => q.elim (nI_pos (by omega)) (nI_ge hl (by omega))) q
        · exact (fun q => q.elim (nI_pos (by omega)) (nI_ge ht (by omega))) q
theorem nbad {N j : Nat} (h : j < N) (hN : N < 2 ^ 31) : ¬ bad N (nI j) := fun q => q.elim (nI_pos (by omega)) (nI_ge h hN)
theorem M_unstep_ok {τ : SX} {n : Nat} {T : TT} {mk : Option Nat} (hT : Sys n T) (h : MI τ n T mk) {s l : Nat} (hs : s < n) (hl : l < 6) : MOk (fn_X4_unstep τ (nI s) (nI l)) n (upT T l s none) none (b2i (hasS T l s)) := by
  have hn := hT.2.1
  unfold fn_X4_unstep
  simp only [letb]
  have h1 := (h.th 0).1
  rw [M_isState_ok hT h.1 hs, Option.bind_some, if_neg (show ¬ (1 : Int32) = 0 by decide), M_isLabel_ok hl, Option.bind_some, if_neg (show ¬ (1 : Int32) = 0 by decide), ss0, if_pos (show (0 : Int32) = 0 from rfl), M_to h1 (by omega) hl, Option.bind_some, ix, as_nI (by omega) (by decide), Option.bind_some]
  obtain ⟨τ1, e1, i1, t1, -⟩ := M_change (h1.put (s := s) (o := none) hl)
  have e1' : fn_X4_change (sa (ss τ 0 0) 1 (6 * s + l) (-1)) = some τ1 := e1
  rw [e1', Option.bind_some, Option.bind_some, zr0, zr1]
  have := enc_has hT (l := l) (s := s)
  refine ⟨τ1, ?_, i1, by rw [t1, sa1, ss_self]⟩
  by_cases c : enc (T l s) = -1
  · rw [if_pos c] at this ⊢; rw [← this]; rfl
  · rw [if_neg c] at this ⊢; rw [e1', ← this]; rfl
theorem M_unstep_bad {τ : SX} {n : Nat} {T : TT} {mk : Option Nat} (hT : Sys n T) (h : MI τ n T mk) {x y : Int32} (hb : bad n x ∨ bad 6 y) : MBad (fn_X4_unstep τ x y) n T mk 1 := by
  have hn := hT.2.1
  unfold fn_X4_unstep
  simp only [letb]
  have f : MBad ((zr 0).bind fun w9 => some (w9, ss τ 0 1)) n T mk 1 := ⟨0, _, rfl, h.th 1, ss0⟩
  rcases ok_bad n x (by omega) with c | ⟨s, hs, rfl⟩
  · rw [M_isState_bad h.1 c, Option.bind_some, if_pos rfl, ss0, if_neg (show ¬ (1 : Int32) = 0 by decide)]; exact f
  · rw [M_isState_ok hT h.1 hs, Option.bind_some, if_neg (show ¬ (1 : Int32) = 0 by decide)]
    rcases ok_bad 6 y (by omega) with c | ⟨l, hl, rfl⟩
    · rw [M_isLabel_bad c, Option.bind_some, if_pos rfl, ss0, if_neg (show ¬ (1 : Int32) = 0 by decide)]; exact f
    · exfalso
      rcases hb with q | q
      · exact nbad hs (by omega) q
      · exact nbad hl (by omega) q
theorem M_stateCount {τ : SX} {n : Nat} {T : TT} {mk : Option Nat} (h : MI τ n T mk) : MOk (fn_X4_stateCount τ) n T mk (nI n) := by
  unfold fn_X4_stateCount
  simp only [letb]
  exact ⟨_, by rw [(h.th 0).1.1], h.th 0, ss0⟩
theorem M_target_ok {τ : SX} {n : Nat} {T : TT} {mk : Option Nat} (hT : Sys n T) (h : MI τ n T mk) {s l : Nat} (hs : s < n) (hl : l < 6) : MOk (fn_X4_target τ (nI s) (nI l)) n T mk (enc (T l s)) := by
  have hn := hT.2.1
  unfold fn_X4_target
  simp only [letb]
  have h1 := (h.th 0).1
  rw [M_isState_ok hT h1 hs, Option.bind_some, if_neg (show ¬ (1 : Int32) = 0 by decide), M_isLabel_ok hl, Option.bind_some, if_neg (show ¬ (1 : Int32) = 0 by decide), M_to h1 (by omega) hl, Option.bind_some]
  exact ⟨_, rfl, h.th 0, ss0⟩
theorem M_target_bad {τ : SX} {n : Nat} {T : TT} {mk : Option Nat} (hT : Sys n T) (h : MI τ n T mk) {x y : Int32} (hb : bad n x ∨ bad 6 y) : MBad (fn_X4_target τ x y) n T mk 1 := by
  have hn := hT.2.1
  unfold fn_X4_target
  simp only [letb]
  have h1 := h.th 0
  have f := M_fail h1 1
  rcases ok_bad n x (by omega) with c | ⟨s, hs, rfl⟩
  · rw [M_isState_bad h1.1 c, Option.bind_some, if_pos rfl]; exact f
  · rw [M_isState_ok hT h1.1 hs, Option.bind_some, if_neg (show ¬ (1 : Int32) = 0 by decide)]
    rcases ok_bad 6 y (by omega) with c | ⟨l, hl, rfl⟩
    · rw [M_isLabel_bad c, Option.bind_some, if_pos rfl]; exact f
    · exfalso
      rcases hb with q | q
      · exact nbad hs (by omega) q
      · exact nbad hl (by omega) q
/-- the labels with which there are steps from a state -/
def enS (T : TT) (s : Nat) : Nat := mask 6 fun l => hasS T l s
theorem M_enabled_ok {τ : SX} {n : Nat} {T : TT} {mk : Option Nat} (hT : Sys n T) (h : MI τ n T mk) {s : Nat} (hs : s < n) : MOk (fn_X4_enabled τ (nI s)) n T mk (nI (enS T s)) := by
  have hn := hT.2.1
  unfold fn_X4_enabled
  simp only [letb]
  have h1 := (h.th 0).1
  rw [M_isState_ok hT h1 hs, Option.bind_some, if_pos (show ¬ (1 : Int32) = 0 by decide)]
  refine ⟨ss τ 0 0, ?_, h.th 0, ss0⟩
  refine loop_0m (body := bd_X4_enabled_23 (nI s) (ss τ 0 0)) (bot := fun _ _ => none) (fun i g => g (nI (mask i fun l => hasS T l s)) (nI i)) 6 _ (by decide) ?_ ?_
  · intro rec l hl
    rw [bd_X4_enabled_23, if_neg (show ¬ (6 : Int32) ≤ nI l from nI_ge hl (by decide)), M_to h1 (by omega) hl, Option.bind_some]
    simp only [letb]
    rw [nI_1]
    cases e : T l s with
    | none => rw [if_pos (show enc none = -1 from rfl), mask_skip (by unfold hasS; rw [e]; rfl)]
    | some t =>
      have ht := (hT.2.2 l s t e).2.2
      rw [if_neg (show ¬ enc (some t) = -1 from i_neg1 (by omega)), mask_step (P := fun l => hasS T l s) (by omega) (by unfold hasS; rw [e]; rfl)]
  · intro rec
    rw [bd_X4_enabled_23, if_pos (show (6 : Int32) ≤ nI 6 from nI_le (Nat.le_refl 6) (by decide))]; rfl
theorem M_enabled_bad {τ : SX} {n : Nat} {T : TT} {mk : Option Nat} (h : MI τ n T mk) {x : Int32} (hb : bad n x) : MBad (fn_X4_enabled τ x) n T mk 1 := by
  unfold fn_X4_enabled
  simp only [letb]
  have h1 := h.th 0
  rw [M_isState_bad h1.1 hb, Option.bind_some, if_neg (show ¬ ¬ (0 : Int32) = 0 from fun q => q rfl)]; exact M_fail h1 1
theorem M_reached {τ : SX} {n : Nat} {T : TT} {mk : Option Nat} (hT : Sys n T) (h : MI τ n T mk) : MOk (fn_X4_reached τ) n T mk (nI (rch T (n - 1))) := by
  unfold fn_X4_reached
  simp only [letb]
  exact ⟨_, M_reachedL hT (h.th 0).1, h.th 0, ss0⟩
theorem M_distance_ok {τ : SX} {n : Nat} {T : TT} {mk : Option Nat} (hT : Sys n T) (h : MI τ n T mk) {s : Nat} (hs : s < n) : MOk (fn_X4_distance τ (nI s)) n T mk (enc (distS T n s)) := by
  have hn := hT.2.1
  unfold fn_X4_distance
  simp only [letb]
  have h1 := (h.th 0).1
  rw [M_isState_ok hT h1 hs, Option.bind_some, if_pos (show ¬ (1 : Int32) = 0 by decide)]
  exact ⟨_, M_distanceL hT h1 (by omega), h.th 0, ss0⟩
theorem M_distance_bad {τ : SX} {n : Nat} {T : TT} {mk : Option Nat} (h : MI τ n T mk) {x : Int32} (hb : bad n x) : MBad (fn_X4_distance τ x) n T mk 1 := by
  unfold fn_X4_distance
  simp only [letb]
  have h1 := h.th 0
  rw [M_isState_bad h1.1 hb, Option.bind_some, if_neg (show ¬ ¬ (0 : Int32) = 0 from fun q => q rfl)]; exact M_fail h1 1
theorem M_crossing_ok {τ : SX} {n : Nat} {T : TT} {mk : Option Nat} (hT : Sys n T) (h : MI τ n T mk) {a l : Nat} (ha : a < 2 ^ n) (hl : l < 6) : MOk (fn_X4_crossing τ (nI a) (nI l)) n T mk (nI (wayS T l a)) := by
  have hp := p12 hT
  unfold fn_X4_crossing
  simp only [letb]
  have h1 := (h.th 0).1
  rw [M_isSet_ok hT h1 ha, Option.bind_some, if_pos (show ¬ (1 : Int32) = 0 by decide), M_isLabel_ok hl, Option.bind_some, if_neg (show ¬ (1 : Int32) = 0 by decide), M_way hT h1 (by omega) hl, Option.bind_some]
  exact ⟨_, rfl, h.th 0, ss0⟩
theorem M_crossing_bad1 {τ : SX} {n : Nat} {T : TT} {mk : Option Nat} (hT : Sys n T) (h : MI τ n T mk) {x y : Int32} (hb : bad (2 ^ n) x) : MBad (fn_X4_crossing τ x y) n T mk 1 := by
  unfold fn_X4_crossing
  simp only [letb]
  have h1 := h.th 0
  rw [M_isSet_bad hT h1.1 hb, Option.bind_some, if_neg (show ¬ ¬ (0 : Int32) = 0 from fun q => q rfl)]; exact M_fail h1 1
theorem M_crossing_bad2 {τ : SX} {n : Nat} {T : TT} {mk : Option Nat} (hT : Sys n T) (h : MI τ n T mk) {a : Nat} {y : Int32} (ha : a < 2 ^ n) (hb : bad 6 y) : MBad (fn_X4_crossing τ (nI a) y) n T mk 2 := by
  unfold fn_X4_crossing
  simp only [letb]
  have h1 := h.th 0
  rw [M_isSet_ok hT h1.1 ha, Option.bind_some, if_pos (show ¬ (1 : Int32) = 0 by decide), M_isLabel_bad hb, Option.bind_some, if_pos rfl]; exact M_fail h1 2
theorem M_isRegion_ok {τ : SX} {n : Nat} {T : TT} {mk : Option Nat} (hT : Sys n T) (h : MI τ n T mk) {a : Nat} (ha : a < 2 ^ n) : MOk (fn_X4_isRegion τ (nI a)) n T mk (b2i (isReg n T a)) := by
  unfold fn_X4_isRegion
  simp only [letb]
  have h1 := (h.th 0).1
  rw [M_isSet_ok hT h.1 ha, Option.bind_some, if_neg (show ¬ (1 : Int32) = 0 by decide), ss0, if_neg (show ¬ ¬ (0 : Int32) = 0 from fun q => q rfl), M_isProper hT h1 ha, Option.bind_some]
  refine ⟨ss τ 0 0, ?_, h.th 0, ss0⟩
  cases isReg n T a <;> rfl
theorem M_isRegion_bad {τ : SX} {n : Nat} {T : TT} {mk : Option Nat} (hT : Sys n T) (h : MI τ n T mk) {x : Int32} (hb : bad (2 ^ n) x) : MBad (fn_X4_isRegion τ x) n T mk 1 := by
  unfold fn_X4_isRegion
  simp only [letb]
  rw [M_isSet_bad hT h.1 hb, Option.bind_some, if_pos rfl, ss0, if_pos (show ¬ (1 : Int32) = 0 by decide)]
  exact ⟨0, _, rfl, h.th 1, ss0⟩
theorem M_regionCount {τ : SX} {n : Nat} {T : TT} {mk : Option Nat} (hT : Sys n T) (h : MI τ n T mk) : MOk (fn_X4_regionCount τ) n T mk (nI (RgL n T).length) := by
  unfold fn_X4_regionCount
  simp only [letb]
  have h1 := h.th 0
  obtain ⟨τ1, e1, k1, q2, qR⟩ := M_know hT h1.1 h1.2.1
  rw [e1, Option.bind_some]
  exact ⟨τ1, by rw [qR.1], h1.keepK k1 (Or.inr ⟨q2, qR⟩), (k1.1 0 (by decide) (by decide)).trans ss0⟩
theorem M_region_ok {τ : SX} {n : Nat} {T : TT} {mk : Option Nat} (hT : Sys n T) (h : MI τ n T mk) {k : Nat} (hk : k < (RgL n T).length) : MOk (fn_X4_region τ (nI k)) n T mk (nI (rg n T k)) := by
  have hlen := RgL_len hT
  unfold fn_X4_region
  simp only [letb]
  have h1 := h.th 0
  obtain ⟨τ1, e1, k1, q2, qR⟩ := M_know hT h1.1 h1.2.1
  rw [e1, Option.bind_some, if_neg (nI_pos (by omega)), qR.1, if_neg (nI_ge hk (by omega)), M_sets hT qR hk, Option.bind_some]
  exact ⟨τ1, rfl, h1.keepK k1 (Or.inr ⟨q2, qR⟩), (k1.1 0 (by decide) (by decide)).trans ss0⟩
theorem M_region_bad {τ : SX} {n : Nat} {T : TT} {mk : Option Nat} (hT : Sys n T) (h : MI τ n T mk) {x : Int32} (hb : bad (RgL n T).length x) : MBad (fn_X4_region τ x) n T mk 1 := by
  unfold fn_X4_region
  simp only [letb]
  have h1 := h.th 0
  obtain ⟨τ1, e1, k1, q2, qR⟩ := M_know hT h1.1 h1.2.1
  have f := M_fail (h1.keepK k1 (Or.inr ⟨q2, qR⟩)) 1
  rw [e1, Option.bind_some]
  by_cases c : x < 0
  · rw [if_pos c]; exact f
  · rw [if_neg c, qR.1, if_pos (hb.resolve_left c)]; exact f
theorem MReg.th {τ : SX} {L : List Nat} (h : MReg τ L) (v : Int32) : MReg (ss τ 0 v) L := ⟨(ss_ne (by decide)).trans h.1, h.2⟩
theorem M_isLeast_ok {τ : SX} {n : Nat} {T : TT} {mk : Option Nat} (hT : Sys n T) (h : MI τ n T mk) {k : Nat} (hk : k < (RgL n T).length) : MOk (fn_X4_isLeast τ (nI k)) n T mk (b2i (leastS n T k)) := by
  have hlen := RgL_len hT
  unfold fn_X4_isLeast
  simp only [letb]
  obtain ⟨τ1, e1, k1, q2, qR⟩ := M_know hT h.1 h.2.1
  rw [e1, Option.bind_some, if_neg (nI_pos (by omega)), qR.1, if_neg (nI_ge hk (by omega)), ss0, if_neg (show ¬ ¬ (0 : Int32) = 0 from fun q => q rfl), M_isSmallest hT (qR.th 0) hk, Option.bind_some]
  refine ⟨ss τ1 0 0, ?_, (h.keepK k1 (Or.inr ⟨q2, qR⟩)).th 0, ss0⟩
  cases leastS n T k <;> rfl
theorem M_isLeast_bad {τ : SX} {n : Nat} {T : TT} {mk : Option Nat} (hT : Sys n T) (h : MI τ n T mk) {x : Int32} (hb : bad (RgL n T).length x) : MBad (fn_X4_isLeast τ x) n T mk 1 := by
  unfold fn_X4_isLeast
  simp only [letb]
  obtain ⟨τ1, e1, k1, q2, qR⟩ := M_know hT h.1 h.2.1
  have f : MBad ((zr 0).bind fun w9 => some (w9, ss τ1 0 1)) n T mk 1 := ⟨0, _, rfl, (h.keepK k1 (Or.inr ⟨q2, qR⟩)).th 1, ss0⟩
  rw [e1, Option.bind_some]
  by_cases c : x < 0
  · rw [if_pos c, ss0, if_pos (show ¬ (1 : Int32) = 0 by decide)]; exact f
  · rw [if_neg c, qR.1, if_pos (hb.resolve_left c), ss0, if_pos (show ¬ (1 : Int32) = 0 by decide)]; exact f
theorem M_grow_ok {τ : SX} {n : Nat} {T : TT} {mk : Option Nat} (hT : Sys n T) (h : MI τ n T mk) {a : Nat} (ha : a < 2 ^ n) : MOk (fn_X4_grow τ (nI a)) n T mk (nI (growK T a 12)) := by
  have hp := p12 hT
  unfold fn_X4_grow
  simp only [letb]
  have h1 := (h.th 0).1
  rw [M_isSet_ok hT h1 ha, Option.bind_some, if_pos (show ¬ (1 : Int32) = 0 by decide), M_mixed hT h1 (by omega), Option.bind_some]
  exact ⟨_, M_growL hT h1 (by omega), h.th 0, ss0⟩
theorem M_grow_bad {τ : SX} {n : Nat} {T : TT} {mk : Option Nat} (hT : Sys n T) (h : MI τ n T mk) {x : Int32} (hb : bad (2 ^ n) x) : MBad (fn_X4_grow τ x) n T mk 1 := by
  unfold fn_X4_grow
  simp only [letb]
  have h1 := h.th 0
  rw [M_isSet_bad hT h1.1 hb, Option.bind_some, if_neg (show ¬ ¬ (0 : Int32) = 0 from fun q => q rfl)]; exact M_fail h1 1
theorem M_apart_ok {τ : SX} {n : Nat} {T : TT} {mk : Option Nat} (hT : Sys n T) (h : MI τ n T mk) {a b : Nat} (ha : a < n) (hb : b < n) : MOk (fn_X4_apart τ (nI a) (nI b)) n T mk (enc (apartS n T a b)) := by
  have hn := hT.2.1
  unfold fn_X4_apart
  simp only [letb]
  have h1 := h.th 0
  obtain ⟨τ1, e1, k1, q2, qR⟩ := M_firstApart hT h1.1 h1.2.1 (a := a) (b := b) (by omega) (by omega)
  rw [M_isState_ok hT h1.1 ha, Option.bind_some, if_neg (show ¬ (1 : Int32) = 0 by decide), M_isState_ok hT h1.1 hb, Option.bind_some, if_neg (show ¬ (1 : Int32) = 0 by decide), e1]
  exact ⟨τ1, rfl, h1.keepK k1 (Or.inr ⟨q2, qR⟩), (k1.1 0 (by decide) (by decide)).trans ss0⟩
theorem M_apart_bad {τ : SX} {n : Nat} {T : TT} {mk : Option Nat} (hT : Sys n T) (h : MI τ n T mk) {x y : Int32} (hb : bad n x ∨ bad n y) : MBad (fn_X4_apart τ x y) n T mk 1 := by
  have hn := hT.2.1
  unfold fn_X4_apart
  simp only [letb]
  have h1 := h.th 0
  have f := M_fail h1 1
  rcases ok_bad n x (by omega) with c | ⟨s, hs, rfl⟩
  · rw [M_isState_bad h1.1 c, Option.bind_some, if_pos rfl]; exact f
  · rw [M_isState_ok hT h1.1 hs, Option.bind_some, if_neg (show ¬ (1 : Int32) = 0 by decide)]
    rcases ok_bad n y (by omega) with c | ⟨l, hl, rfl⟩
    · rw [M_isState_bad h1.1 c, Option.bind_some, if_pos rfl]; exact f
    · exfalso
      rcases hb with q | q
      · exact nbad hs (by omega) q
      · exact nbad hl (by omega) q
/-- the first region by which a label is prevented; -2 where there is a step -/
def pvS (n : Nat) (T : TT) (s l : Nat) : Int32 := if T l s = none then enc (prevS n T s l) else -2
theorem M_preventer_ok {τ : SX} {n : Nat} {T : TT} {mk : Option Nat} (hT : Sys n T) (h : MI τ n T mk) {s l : Nat} (hs : s < n) (hl : l < 6) : MOk (fn_X4_preventer τ (nI s) (nI l)) n T mk (pvS n T s l) := by
  have hn := hT.2.1
  unfold fn_X4_preventer
  simp only [letb]
  have h1 := h.th 0
  obtain ⟨τ1, e1, k1, q2, qR⟩ := M_firstPreventer hT h1.1 h1.2.1 (s := s) (l := l) (by omega) hl
  rw [M_isState_ok hT h1.1 hs, Option.bind_some, if_neg (show ¬ (1 : Int32) = 0 by decide), M_isLabel_ok hl, Option.bind_some, if_pos (show ¬ (1 : Int32) = 0 by decide), M_to h1.1 (by omega) hl, Option.bind_some]
  unfold pvS
  by_cases c : T l s = none
  · rw [if_pos ((enc_none hT).mpr c), if_pos c, e1]
    exact ⟨τ1, rfl, h1.keepK k1 (Or.inr ⟨q2, qR⟩), (k1.1 0 (by decide) (by decide)).trans ss0⟩
  · rw [if_neg (fun q => c ((enc_none hT).mp q)), if_neg c]
    exact ⟨_, rfl, h1, ss0⟩
theorem M_preventer_bad {τ : SX} {n : Nat} {T : TT} {mk : Option Nat} (hT : Sys n T) (h : MI τ n T mk) {x y : Int32} (hb : bad n x ∨ bad 6 y) : MBad (fn_X4_preventer τ x y) n T mk 1 := by
  have hn := hT.2.1
  unfold fn_X4_preventer
  simp only [letb]
  have h1 := h.th 0
  have f := M_fail h1 1
  rcases ok_bad n x (by omega) with c | ⟨s, hs, rfl⟩
  · rw [M_isState_bad h1.1 c, Option.bind_some, if_pos rfl]; exact f
  · rw [M_isState_ok hT h1.1 hs, Option.bind_some, if_neg (show ¬ (1 : Int32) = 0 by decide)]
    rcases ok_bad 6 y (by omega) with c | ⟨l, hl, rfl⟩
    · rw [M_isLabel_bad c, Option.bind_some, if_neg (show ¬ ¬ (0 : Int32) = 0 from fun q => q rfl)]; exact f
    · exfalso
      rcases hb with q | q
      · exact nbad hs (by omega) q
      · exact nbad hl (by omega) q
theorem M_lumps {τ : SX} {n : Nat} {T : TT} {mk : Option Nat} (hT : Sys n T) (h : MI τ n T mk) : MOk (fn_X4_lumps τ) n T mk (nI (lumpS n T)) := by
  unfold fn_X4_lumps
  simp only [letb]
  have h1 := h.th 0
  obtain ⟨τ1, e1, k1, q⟩ := M_lumpCount hT h1.1 h1.2.1
  rw [e1]
  exact ⟨τ1, rfl, h1.keepK k1 q, (k1.1 0 (by decide) (by decide)).trans ss0⟩
theorem M_leaks {τ : SX} {n : Nat} {T : TT} {mk : Option Nat} (hT : Sys n T) (h : MI τ n T mk) : MOk (fn_X4_leaks τ) n T mk (nI (leakS n T)) := by
  unfold fn_X4_leaks
  simp only [letb]
  have h1 := h.th 0
  obtain ⟨τ1, e1, k1, q⟩ := M_leakCount hT h1.1 h1.2.1
  rw [e1]
  exact ⟨τ1, rfl, h1.keepK k1 q, (k1.1 0 (by decide) (by decide)).trans ss0⟩
