/-! 34: the methods of the reference's net, its checksum, its renaming -/
theorem MPl.th {τ : SX} {L : List Nat} (h : MPl τ L) {k : Nat} (hk : k ≠ 5) (v : Int32) : MPl (ss τ k v) L := ⟨(ss_ne (Ne.symm hk)).trans h.1, h.2⟩
theorem M_makeNet {τ : SX} {n : Nat} {T : TT} {mk : Option Nat} (hT : Sys n T) (h : MI τ n T mk) : MOk (fn_X4_makeNet τ) n T (some (withS n T 0)) (nI (PL n T).length) := by
  unfold fn_X4_makeNet
  simp only [letb]
  have h1 := h.th 0
  -- behind the making
  have fin : ∀ ρ : SX, MB ρ n T → MKnown ρ n T → ρ.1 4 = 1 → MPl ρ (PL n T) → MMk ρ (ML n T) → ρ.1 0 = 0 → MOk ((fn_X4_firstMarking ρ).bind fun v2 => some ((ss ρ 6 v2).1 5, ss ρ 6 v2)) n T (some (withS n T 0)) (nI (PL n T).length) := by
    intro ρ a1 a2 a3 a4 a5 a6
    rw [M_firstMarking hT a4, Option.bind_some]
    refine ⟨_, by rw [ss_ne (by decide), a4.1], ⟨a1.th (by decide) _, ?_, (ss_ne (by decide)).trans a3, a4.th (by decide) _, ⟨(ss_ne (by decide)).trans a5.1, a5.2⟩, ss_self, withS_lt n T 0⟩, (ss_ne (by decide)).trans a6⟩
    rcases a2 with q | ⟨q1, q2⟩
    · exact Or.inl ((ss_ne (by decide)).trans q)
    · exact Or.inr ⟨(ss_ne (by decide)).trans q1, (ss_ne (by decide)).trans q2.1, q2.2⟩
  cases mk with
  | some m =>
    obtain ⟨c1, c2, c3, c4, c5⟩ := h1.2.2
    rw [if_pos (show ¬ (ss τ 0 0).1 4 = 0 by rw [c1]; decide)]
    exact fin _ h1.1 h1.2.1 c1 c2 c3 ss0
  | none =>
    have c1 : (ss τ 0 0).1 4 = 0 := h1.2.2
    rw [if_neg (fun q => q c1)]
    obtain ⟨τ1, e1, k1, q2, qR⟩ := M_know hT h1.1 h1.2.1
    rw [e1, Option.bind_some]
    have hlen := RgL_len hT
    have hb0 := h1.1.keepK k1
    -- where the loop ends
    have done : ∀ ρ : SX, MB ρ n T → ρ.1 2 = 1 → MReg ρ (RgL n T) → MPl ρ (PL n T) → ρ.1 0 = 0 → MOk ((fn_X4_findMarkings (ss ρ 4 1)).bind fun σ8 => (fn_X4_firstMarking σ8).bind fun v2 => some ((ss σ8 6 v2).1 5, ss σ8 6 v2)) n T (some (withS n T 0)) (nI (PL n T).length) := by
      intro ρ a1 a2 a3 a4 a5
      obtain ⟨ρ1, e2, k2, m2⟩ := M_findMarkings hT (a1.th (k := 4) (by decide) 1) (a4.th (k := 4) (by decide) 1)
      rw [e2, Option.bind_some]
      refine fin ρ1 ((a1.th (by decide) 1).keepMM k2) (Or.inr ⟨(k2.1 2 (by decide)).trans ((ss_ne (by decide)).trans a2), (k2.1 3 (by decide)).trans ((ss_ne (by decide)).trans a3.1), ?_⟩) ((k2.1 4 (by decide)).trans ss_self) ((a4.th (by decide) 1).keepMM k2) m2 ((k2.1 0 (by decide)).trans ((ss_ne (by decide)).trans a5))
      rw [k2.2 2 (by decide)]; exact a3.2
    refine loop_rel (body := bd_X4_makeNet_23 fun τ_91 => (fn_X4_firstMarking τ_91).bind fun v2 => some ((ss τ_91 6 v2).1 5, ss τ_91 6 v2)) (bot := fun _ _ => none) (fun i (ρ : SX) g => g (nI i) ρ) (RgL n T).length
      (fun i ρ => MB ρ n T ∧ ρ.1 2 = 1 ∧ MReg ρ (RgL n T) ∧ MPl ρ (pT n T i) ∧ (pT n T i).length ≤ 30 ∧ ρ.1 0 = 0) (fun o => MOk o n T (some (withS n T 0)) (nI (PL n T).length)) ?_ ?_ FU 0 (ss τ1 5 0) (Nat.zero_le _) (by unfold FU; omega) ⟨hb0.th (by decide) 0, (ss_ne (by decide)).trans q2, ⟨(ss_ne (by decide)).trans qR.1, qR.2⟩, ⟨ss_self, fun i hi => by simp [pT] at hi⟩, by simp [pT], (ss_ne (by decide)).trans ((k1.1 0 (by decide) (by decide)).trans ss0)⟩
    · intro rec i ρ hi ⟨a1, a2, a3, a4, a5, a6⟩ hnext
      rw [bd_X4_makeNet_23]
      simp only [letb]
      rw [a3.1, if_neg (nI_ge hi (by omega)), a4.1, nI_1]
      by_cases c30 : 30 ≤ (pT n T i).length
      · rw [if_pos (show (30 : Int32) ≤ nI _ from nI_le c30 (by omega))]
        have e : PL n T = pT n T i := by
          obtain ⟨l, hl2⟩ := pT_le (n := n) (T := T) (Nat.le_of_lt hi)
          unfold PL
          rw [hl2, List.take_append_of_le_length c30, List.take_of_length_le a5]
        exact done ρ a1 a2 a3 (by rw [e]; exact a4) a6
      · rw [if_neg (show ¬ (30 : Int32) ≤ nI _ from nI_ge (b := 30) (by omega) (by decide)), M_isSmallest hT a3 hi, Option.bind_some, M_sets hT a3 hi]
        simp only [Option.bind_some]
        cases e : leastS n T i with
        | false =>
          rw [if_neg (fun q => q b2iF)]
          exact hnext ρ ⟨a1, a2, a3, by rw [pT_succ, e]; exact a4, by rw [pT_succ, e]; exact a5, a6⟩
        | true =>
          rw [if_pos b2iT, as_nI (by omega) (by decide), Option.bind_some]
          refine hnext _ ⟨⟨by rw [ss_ne (by decide), sa1]; exact a1.1, fun s l hs hl => by rw [ss2, sa2 (by decide)]; exact a1.2 s l hs hl⟩, by rw [ss_ne (by decide), sa1]; exact a2, ⟨by rw [ss_ne (by decide), sa1]; exact a3.1, by rw [ss2, sa2 (by decide)]; exact a3.2⟩, ⟨?_, ?_⟩, ?_, by rw [ss_ne (by decide), sa1]; exact a6⟩
          · rw [ss_self, sa1, a4.1, nI_1, pT_succ, e, if_pos rfl, List.length_append]; rfl
          · rw [pT_succ, e, if_pos rfl]
            exact a4.2.push (fun j hj => by rw [ss2, sa_self, if_neg hj]) (by rw [ss2, sa_self, if_pos rfl])
          · rw [pT_succ, e, if_pos rfl, List.length_append]; simp; omega
    · intro rec ρ ⟨a1, a2, a3, a4, a5, a6⟩
      rw [bd_X4_makeNet_23]
      simp only [letb]
      rw [a3.1, if_pos (nI_le (Nat.le_refl _) (by omega))]
      have e : PL n T = pT n T (RgL n T).length := List.take_of_length_le a5
      exact done ρ a1 a2 a3 (by rw [e]; exact a4) a6
theorem M_hasNet {τ : SX} {n : Nat} {T : TT} {mk : Option Nat} (h : MI τ n T mk) : MOk (fn_X4_hasNet τ) n T mk (b2i mk.isSome) := by
  unfold fn_X4_hasNet
  simp only [letb]
  have h1 := h.th 0
  refine ⟨_, ?_, h1, ss0⟩
  cases mk with
  | none => rw [show (ss τ 0 0).1 4 = 0 from h1.2.2]; rfl
  | some m => rw [h1.2.2.1]; rfl
/-- asking for a number below a limit -/
theorem M_asks_ok {τ : SX} {n : Nat} {T : TT} {m k N : Nat} (h : MI τ n T (some m)) (hk : k < N) (hN : N < 2 ^ 31) : fn_X4_asks τ (nI k) (nI N) = some (1, ss τ 0 0) := by
  unfold fn_X4_asks
  simp only [letb]
  rw [if_pos (show ¬ τ.1 4 = 0 by rw [h.2.2.1]; decide), if_neg (nI_pos (by omega)), if_pos (nI_lt hk hN), ss0, if_neg (show ¬ ¬ (0 : Int32) = 0 from fun q => q rfl)]; rfl
theorem M_asks_bad {τ : SX} {n : Nat} {T : TT} {m N : Nat} {x : Int32} (h : MI τ n T (some m)) (hN : N < 2 ^ 31) (hb : bad N x) : fn_X4_asks τ x (nI N) = some (0, ss τ 0 2) := by
  unfold fn_X4_asks
  simp only [letb]
  rw [if_pos (show ¬ τ.1 4 = 0 by rw [h.2.2.1]; decide), ss0, if_pos (show ¬ (2 : Int32) = 0 by decide)]
  by_cases c : x < 0
  · rw [if_pos c]; rfl
  · rw [if_neg c, if_neg (fun q => Int32.lt_irrefl (Int32.lt_of_le_of_lt (hb.resolve_left c) q))]; rfl
theorem M_asks_no {τ : SX} {n : Nat} {T : TT} {x y : Int32} (h : MI τ n T none) : fn_X4_asks τ x y = some (0, ss τ 0 1) := by
  unfold fn_X4_asks
  simp only [letb]
  rw [if_neg (fun q => q h.2.2), ss0, if_pos (show ¬ (1 : Int32) = 0 by decide)]; rfl
theorem M_placeRegion_ok {τ : SX} {n : Nat} {T : TT} {m p : Nat} (h : MI τ n T (some m)) (hp : p < (PL n T).length) : MOk (fn_X4_placeRegion τ (nI p)) n T (some m) (nI (pg n T p)) := by
  have hl := PL_len (n := n) (T := T)
  unfold fn_X4_placeRegion
  rw [h.2.2.2.1.1, M_asks_ok h hp (by omega)]
  simp only [bind2, Option.bind_some]
  rw [if_neg (show ¬ (1 : Int32) = 0 by decide), ag_nI (by omega) (by decide), Option.bind_some, show (ss τ 0 0).2 3 p = nI ((PL n T).getD p 0) from h.2.2.2.1.2 p hp]
  exact ⟨_, rfl, h.th 0, ss0⟩
theorem M_placeRegion_bad {τ : SX} {n : Nat} {T : TT} {m : Nat} {x : Int32} (h : MI τ n T (some m)) (hb : bad (PL n T).length x) : MBad (fn_X4_placeRegion τ x) n T (some m) 2 := by
  have hl := PL_len (n := n) (T := T)
  unfold fn_X4_placeRegion
  rw [h.2.2.2.1.1, M_asks_bad h (by omega) hb]
  exact ⟨0, _, rfl, h.th 2, ss0⟩
theorem M_placeRegion_no {τ : SX} {n : Nat} {T : TT} {x : Int32} (h : MI τ n T none) : MBad (fn_X4_placeRegion τ x) n T none 1 := by
  unfold fn_X4_placeRegion
  rw [M_asks_no h]
  exact ⟨0, _, rfl, h.th 1, ss0⟩
theorem M_consumed_ok {τ : SX} {n : Nat} {T : TT} {m l : Nat} (hT : Sys n T) (h : MI τ n T (some m)) (hl : l < 6) : MOk (fn_X4_consumed τ (nI l)) n T (some m) (nI (crossS n T l 2)) := by
  unfold fn_X4_consumed
  have e : fn_X4_asks τ (nI l) 6 = _ := M_asks_ok h (N := 6) hl (by decide)
  have h1 := h.th 0
  have e2 : fn_X4_crossed (ss τ 0 0) (nI l) 2 = _ := M_crossed hT h1.1 h1.2.2.2.1 hl (w := 2) (by decide)
  rw [e]
  simp only [bind2, Option.bind_some]
  rw [if_neg (show ¬ (1 : Int32) = 0 by decide), e2, Option.bind_some]
  exact ⟨_, rfl, h1, ss0⟩
theorem M_consumed_bad {τ : SX} {n : Nat} {T : TT} {m : Nat} {x : Int32} (h : MI τ n T (some m)) (hb : bad 6 x) : MBad (fn_X4_consumed τ x) n T (some m) 2 := by
  unfold fn_X4_consumed
  have e : fn_X4_asks τ x 6 = _ := M_asks_bad h (N := 6) (by decide) hb
  rw [e]
  exact ⟨0, _, rfl, h.th 2, ss0⟩
theorem M_consumed_no {τ : SX} {n : Nat} {T : TT} {x : Int32} (h : MI τ n T none) : MBad (fn_X4_consumed τ x) n T none 1 := by
  unfold fn_X4_consumed
  rw [M_asks_no h]
  exact ⟨0, _, rfl, h.th 1, ss0⟩
theorem M_produced_ok {τ : SX} {n : Nat} {T : TT} {m l : Nat} (hT : Sys n T) (h : MI τ n T (some m)) (hl : l < 6) : MOk (fn_X4_produced τ (nI l)) n T (some m) (nI (crossS n T l 1)) := by
  unfold fn_X4_produced
  have e : fn_X4_asks τ (nI l) 6 = _ := M_asks_ok h (N := 6) hl (by decide)
  have h1 := h.th 0
  have e2 : fn_X4_crossed (ss τ 0 0) (nI l) 1 = _ := M_crossed hT h1.1 h1.2.2.2.1 hl (w := 1) (by decide)
  rw [e]
  simp only [bind2, Option.bind_some]
  rw [if_neg (show ¬ (1 : Int32) = 0 by decide), e2, Option.bind_some]
  exact ⟨_, rfl, h1, ss0⟩
theorem M_produced_bad {τ : SX} {n : Nat} {T : TT} {m : Nat} {x : Int32} (h : MI τ n T (some m)) (hb : bad 6 x) : MBad (fn_X4_produced τ x) n T (some m) 2 := by
  unfold fn_X4_produced
  have e : fn_X4_asks τ x 6 = _ := M_asks_bad h (N := 6) (by decide) hb
  rw [e]
  exact ⟨0, _, rfl, h.th 2, ss0⟩
theorem M_produced_no {τ : SX} {n : Nat} {T : TT} {x : Int32} (h : MI τ n T none) : MBad (fn_X4_produced τ x) n T none 1 := by
  unfold fn_X4_produced
  rw [M_asks_no h]
  exact ⟨0, _, rfl, h.th 1, ss0⟩
theorem M_marking_ok {τ : SX} {n : Nat} {T : TT} {m : Nat} (h : MI τ n T (some m)) : MOk (fn_X4_marking τ) n T (some m) (nI m) := by
  unfold fn_X4_marking
  have e : fn_X4_asks τ 0 1 = _ := M_asks_ok h (k := 0) (N := 1) (by decide) (by decide)
  rw [e]
  simp only [bind2, Option.bind_some]
  rw [if_neg (show ¬ (1 : Int32) = 0 by decide)]
  exact ⟨_, by rw [(h.th 0).2.2.2.2.2.1], h.th 0, ss0⟩
theorem M_marking_no {τ : SX} {n : Nat} {T : TT} (h : MI τ n T none) : MBad (fn_X4_marking τ) n T none 1 := by
  unfold fn_X4_marking
  rw [M_asks_no h]
  exact ⟨0, _, rfl, h.th 1, ss0⟩
/-- the marking behind a label, and the present one then -/
def fireM (n : Nat) (T : TT) (l m : Nat) : Nat := if canS n T l m then behS n T l m else m
theorem M_fire_ok {τ : SX} {n : Nat} {T : TT} {m l : Nat} (hT : Sys n T) (h : MI τ n T (some m)) (hl : l < 6) : MOk (fn_X4_fire τ (nI l)) n T (some (fireM n T l m)) (enc (behO n T l m)) := by
  unfold fn_X4_fire
  have e : fn_X4_asks τ (nI l) 6 = _ := M_asks_ok h (N := 6) hl (by decide)
  have h1 := h.th 0
  obtain ⟨c1, c2, c3, c4, c5⟩ := h1.2.2
  rw [e]
  simp only [bind2, Option.bind_some]
  rw [if_pos (show ¬ (1 : Int32) = 0 by decide), c4, M_behind hT h1.1 c2 hl c5, Option.bind_some]
  simp only [letb]
  unfold behO fireM
  cases canS n T l m with
  | false =>
    rw [if_neg (show ¬ false = true by decide), if_neg (show ¬ false = true by decide), if_pos (show enc none = -1 from rfl)]
    exact ⟨_, rfl, h1, ss0⟩
  | true =>
    have bb := behS_lt (n := n) (T := T) (l := l) c5
    rw [if_pos (show true = true from rfl), if_pos (show true = true from rfl), if_neg (show ¬ enc (some _) = -1 from i_neg1 (by omega))]
    refine ⟨_, rfl, ⟨h1.1.th (by decide) _, ?_, (ss_ne (by decide)).trans c1, c2.th (by decide) _, ⟨(ss_ne (by decide)).trans c3.1, c3.2⟩, ss_self, bb⟩, (ss_ne (by decide)).trans ss0⟩
    rcases h1.2.1 with q | ⟨q1, q2⟩
    · exact Or.inl ((ss_ne (by decide)).trans q)
    · exact Or.inr ⟨(ss_ne (by decide)).trans q1, (ss_ne (by decide)).trans q2.1, q2.2⟩
theorem M_fire_bad {τ : SX} {n : Nat} {T : TT} {m : Nat} {x : Int32} (h : MI τ n T (some m)) (hb : bad 6 x) : MBad (fn_X4_fire τ x) n T (some m) 2 := by
  unfold fn_X4_fire
  have e : fn_X4_asks τ x 6 = _ := M_asks_bad h (N := 6) (by decide) hb
  rw [e]
  exact ⟨0, _, rfl, h.th 2, ss0⟩
theorem M_fire_no {τ : SX} {n : Nat} {T : TT} {x : Int32} (h : MI τ n T none) : MBad (fn_X4_fire τ x) n T none 1 := by
  unfold fn_X4_fire
  rw [M_asks_no h]
  exact ⟨0, _, rfl, h.th 1, ss0⟩
theorem M_markingCount_ok {τ : SX} {n : Nat} {T : TT} {m : Nat} (h : MI τ n T (some m)) : MOk (fn_X4_markingCount τ) n T (some m) (nI (ML n T).length) := by
  unfold fn_X4_markingCount
  have e : fn_X4_asks τ 0 1 = _ := M_asks_ok h (k := 0) (N := 1) (by decide) (by decide)
  rw [e]
  simp only [bind2, Option.bind_some]
  rw [if_neg (show ¬ (1 : Int32) = 0 by decide)]
  exact ⟨_, by rw [(h.th 0).2.2.2.2.1.1], h.th 0, ss0⟩
theorem M_markingCount_no {τ : SX} {n : Nat} {T : TT} (h : MI τ n T none) : MBad (fn_X4_markingCount τ) n T none 1 := by
  unfold fn_X4_markingCount
  rw [M_asks_no h]
  exact ⟨0, _, rfl, h.th 1, ss0⟩
theorem M_markingAt_ok {τ : SX} {n : Nat} {T : TT} {m p : Nat} (h : MI τ n T (some m)) (hp : p < (ML n T).length) : MOk (fn_X4_markingAt τ (nI p)) n T (some m) (nI ((ML n T).getD p 0)) := by
  have hl := (mkS_ok (n := n) (T := T) 200).1
  have hl : (ML n T).length ≤ 200 := hl
  unfold fn_X4_markingAt
  rw [h.2.2.2.2.1.1, M_asks_ok h hp (by omega)]
  simp only [bind2, Option.bind_some]
  rw [if_neg (show ¬ (1 : Int32) = 0 by decide), ag_nI (by omega) (by decide), Option.bind_some, show (ss τ 0 0).2 4 p = nI ((ML n T).getD p 0) from h.2.2.2.2.1.2 p hp]
  exact ⟨_, rfl, h.th 0, ss0⟩
theorem M_markingAt_bad {τ : SX} {n : Nat} {T : TT} {m : Nat} {x : Int32} (h : MI τ n T (some m)) (hb : bad (ML n T).length x) : MBad (fn_X4_markingAt τ x) n T (some m) 2 := by
  have hl : (ML n T).length ≤ 200 := (mkS_ok (n := n) (T := T) 200).1
  unfold fn_X4_markingAt
  rw [h.2.2.2.2.1.1, M_asks_bad h (by omega) hb]
  exact ⟨0, _, rfl, h.th 2, ss0⟩
theorem M_markingAt_no {τ : SX} {n : Nat} {T : TT} {x : Int32} (h : MI τ n T none) : MBad (fn_X4_markingAt τ x) n T none 1 := by
  unfold fn_X4_markingAt
  rw [M_asks_no h]
  exact ⟨0, _, rfl, h.th 1, ss0⟩
theorem M_digest {τ : SX} {n : Nat} {T : TT} {mk : Option Nat} (hT : Sys n T) (h : MI τ n T mk) : MOk (fn_X4_digest τ) n T mk (digS n T mk) := by
  have hn := hT.2.1
  unfold fn_X4_digest
  simp only [letb]
  have h1 := h.th 0
  obtain ⟨τ1, e1, k1, q2, qR⟩ := M_know hT h1.1 h1.2.1
  have h2 := h1.keepK k1 (Or.inr ⟨q2, qR⟩)
  have hlen := RgL_len hT
  rw [e1, Option.bind_some, h2.1.1]
  refine ⟨τ1, ?_, h2, (k1.1 0 (by decide) (by decide)).trans ss0⟩
  have inner : ∀ d : Int64, d = regD n T 0 → loopF FU (bd_X4_digest_80 τ1) (fun _ _ => none) d 0 = some (digS n T mk, τ1) := by
    intro d hd
    subst hd
    refine loop_0m (fun i (g : Int64 → Int32 → Option (Int64 × SX)) => g (regD n T i) (nI i)) (RgL n T).length _ (by unfold FU; omega) ?_ ?_
    · intro rec i hi
      rw [bd_X4_digest_80, qR.1, if_neg (nI_ge hi (by omega)), M_sets hT qR hi, Option.bind_some]
      simp only [letb]
      rw [nI_1]; rfl
    · intro rec
      rw [bd_X4_digest_80, qR.1, if_pos (nI_le (Nat.le_refl _) (by omega))]
      have h3 := h2.2.2
      cases mk with
      | none => rw [if_pos (show τ1.1 4 = 0 from h3)]; rfl
      | some m =>
        rw [if_neg (show ¬ τ1.1 4 = 0 by rw [h3.1]; decide), h3.2.1.1, h3.2.2.2.1]; rfl
  have e0 : (4681 : Int64) + (nI n).toInt64 = sysD n T 0 := rfl
  rw [e0]
  refine loop_0m (body := bd_X4_digest_21 τ1) (bot := fun _ _ => none) (fun i g => g (sysD n T i) (nI i)) n _ (by unfold FU; omega) ?_ ?_
  · intro rec s hs
    rw [bd_X4_digest_21, h2.1.1, if_neg (nI_ge hs (by omega))]
    simp only [letb]
    refine loop_0m (body := bd_X4_digest_32 τ1 rec (nI s)) (bot := fun _ _ => none) (fun i g => g (rowD T s (sysD n T s) i) (nI i)) 6 _ (by decide) ?_ ?_
    · intro rec2 l hl
      rw [bd_X4_digest_32, if_neg (show ¬ (6 : Int32) ≤ nI l from nI_ge hl (by decide)), M_to h2.1 (by omega) hl, Option.bind_some]
      simp only [letb]
      rw [nI_1]; rfl
    · intro rec2
      rw [bd_X4_digest_32, if_pos (show (6 : Int32) ≤ nI 6 from nI_le (Nat.le_refl 6) (by decide))]
      simp only [letb]
      rw [nI_1]; rfl
  · intro rec
    rw [bd_X4_digest_21, h2.1.1, if_pos (nI_le (Nat.le_refl n) (by omega)), qR.1]
    simp only [letb]
    exact inner _ rfl
