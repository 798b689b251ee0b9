/-! 32: the reference: counts, net, markings -/
theorem MKnown.of {τ : SX} {n : Nat} {T : TT} (h2 : τ.1 2 = 1) (hR : MReg τ (RgL n T)) : MKnown τ n T := Or.inr ⟨h2, hR⟩
theorem M_lumpCount {τ : SX} {n : Nat} {T : TT} (hT : Sys n T) (h : MB τ n T) (hk : MKnown τ n T) : ∃ τ', fn_X4_lumpCount τ = some (nI (lumpS n T), τ') ∧ KeepK τ τ' ∧ MKnown τ' n T := by
  have hn := hT.2.1
  unfold fn_X4_lumpCount
  simp only [letb]
  have e8 : lumpS n T = sumN (fun a => sumN (fun b => b2n (sameP n T a b)) a) n := by
    unfold lumpS
    refine sumN_congr fun a ha => ?_
    rw [← sumN_cut (n := a) (N := n) (by omega) (fun k hk => by rw [decide_eq_false (show ¬ k < a by omega)]; rfl)]
    exact sumN_congr fun b hb => by rw [decide_eq_true hb]; rfl
  rw [e8]
  refine loop_rel (body := bd_X4_lumpCount_4) (bot := fun _ _ _ => none) (fun i (ρ : SX) g => g (nI (sumN (fun a => sumN (fun b => b2n (sameP n T a b)) a) i)) (nI i) ρ) n (fun i ρ => KeepK τ ρ ∧ MKnown ρ n T)
    (fun o => ∃ τ', o = some (nI (sumN (fun a => sumN (fun b => b2n (sameP n T a b)) a) n), τ') ∧ KeepK τ τ' ∧ MKnown τ' n T) ?_ ?_ FU 0 τ (Nat.zero_le _) (by unfold FU; omega) ⟨KeepK.rf, hk⟩
  · intro rec a ρ ha ⟨hK, hKn⟩ hnext
    rw [bd_X4_lumpCount_4, hK.1 1 (by decide) (by decide), h.1, if_neg (nI_ge ha (by omega))]
    simp only [letb]
    refine loop_rel (body := bd_X4_lumpCount_14 rec (nI a)) (bot := fun _ _ _ => none) (fun j (ρ : SX) g => g (nI (sumN (fun a => sumN (fun b => b2n (sameP n T a b)) a) a + sumN (fun b => b2n (sameP n T a b)) j)) (nI j) ρ) a (fun j ρ => KeepK τ ρ ∧ MKnown ρ n T)
      (fun o => ∃ τ', o = some (nI (sumN (fun a => sumN (fun b => b2n (sameP n T a b)) a) n), τ') ∧ KeepK τ τ' ∧ MKnown τ' n T) ?_ ?_ FU 0 ρ (Nat.zero_le _) (by unfold FU; omega) ⟨hK, hKn⟩
    · intro rec2 b ρ hb ⟨hK, hKn⟩ hnext2
      obtain ⟨ρ1, e1, k1, h2, hR⟩ := M_firstApart hT (h.keepK hK) hKn (a := a) (b := b) (by omega) (by omega)
      rw [bd_X4_lumpCount_14, if_neg (nI_ge hb (by omega)), e1]
      simp only [bind2, Option.bind_some, letb]
      rw [nI_1]
      have hstep := hnext2 ρ1 ⟨hK.trans k1, Or.inr ⟨h2, hR⟩⟩
      rw [sumN, ← Nat.add_assoc] at hstep
      by_cases c : apartS n T a b = none
      · rw [if_neg (fun q => q ((enc_ap hT).mpr c)), show (1 : Int32) = nI (b2n (sameP n T a b)) by unfold sameP; rw [c]; rfl, nI_add]
        exact hstep
      · rw [if_pos (fun q => c ((enc_ap hT).mp q)), show (0 : Int32) = nI (b2n (sameP n T a b)) by unfold sameP; rw [ob_ne c]; rfl, nI_add]
        exact hstep
    · intro rec2 ρ ⟨hK, hKn⟩
      rw [bd_X4_lumpCount_14, if_pos (nI_le (Nat.le_refl a) (by omega))]
      simp only [letb]
      rw [nI_1]
      exact hnext ρ ⟨hK, hKn⟩
  · intro rec ρ ⟨hK, hKn⟩
    rw [bd_X4_lumpCount_4, hK.1 1 (by decide) (by decide), h.1, if_pos (nI_le (Nat.le_refl n) (by omega))]
    exact ⟨ρ, rfl, hK, hKn⟩
theorem M_isAsked {τ : SX} {n : Nat} {T : TT} (hT : Sys n T) (h : MB τ n T) {s l : Nat} (hs : s < n) (hl : l < 6) : fn_X4_isAsked τ (nI s) (nI l) = some (b2i (askP n T s l)) := by
  have hn := hT.2.1
  unfold fn_X4_isAsked
  rw [M_to h (by omega) hl, Option.bind_some]
  simp only [letb]
  rw [M_ends1 hT h hl, Option.bind_some]
  unfold askP stopS
  by_cases c : T l s = none
  · rw [if_neg (fun q => q ((enc_none hT).mpr c))]
    by_cases c0 : src T l (fun _ => true) = 0
    · rw [if_pos ((nI_z (src_lt' _ _ _)).mpr c0), if_pos c0, Nat.zero_testBit]; rfl
    · rw [if_neg (fun q => c0 ((nI_z (src_lt' _ _ _)).mp q)), if_neg c0, mask_bit, decide_eq_true hs, decide_eq_true (show s < 12 by omega), c]; rfl
  · rw [if_pos (fun q => c ((enc_none hT).mp q))]
    by_cases c0 : src T l (fun _ => true) = 0
    · rw [if_pos c0, Nat.zero_testBit]; rfl
    · rw [if_neg c0, mask_bit, decide_eq_true hs, decide_eq_true (show s < 12 by omega), ob_ne c]; rfl
theorem ask_cut {n : Nat} {T : TT} {s l : Nat} (hs : n ≤ s) : askP n T s l = false := by
  unfold askP stopS
  split
  · exact Nat.zero_testBit s
  · rw [mask_bit, decide_eq_false (show ¬ s < n by omega)]; simp
theorem leak_sum {n : Nat} {T : TT} (hn : n ≤ 12) : leakS n T = sumN (fun s => sumN (fun l => b2n (leakP n T s l)) 6) n := by
  unfold leakS
  rw [sumN_swap]
  rw [← sumN_cut hn]
  intro s hs
  refine sumN_zero.mpr fun l _ => ?_
  unfold leakP
  rw [ask_cut hs]; rfl
theorem enc_pr {n : Nat} {T : TT} (hT : Sys n T) {s l : Nat} : enc (prevS n T s l) = -1 ↔ prevS n T s l = none := enc_n _ fun t h => by
  have := (fnd_some h).1
  have := RgL_len hT
  omega
theorem M_leakCount {τ : SX} {n : Nat} {T : TT} (hT : Sys n T) (h : MB τ n T) (hk : MKnown τ n T) : ∃ τ', fn_X4_leakCount τ = some (nI (leakS n T), τ') ∧ KeepK τ τ' ∧ MKnown τ' n T := by
  have hn := hT.2.1
  unfold fn_X4_leakCount
  simp only [letb]
  rw [leak_sum hn]
  refine loop_rel (body := bd_X4_leakCount_4) (bot := fun _ _ _ => none) (fun i (ρ : SX) g => g (nI (sumN (fun s => sumN (fun l => b2n (leakP n T s l)) 6) i)) (nI i) ρ) n (fun i ρ => KeepK τ ρ ∧ MKnown ρ n T)
    (fun o => ∃ τ', o = some (nI (sumN (fun s => sumN (fun l => b2n (leakP n T s l)) 6) n), τ') ∧ KeepK τ τ' ∧ MKnown τ' n T) ?_ ?_ FU 0 τ (Nat.zero_le _) (by unfold FU; omega) ⟨KeepK.rf, hk⟩
  · intro rec s ρ hs ⟨hK, hKn⟩ hnext
    rw [bd_X4_leakCount_4, hK.1 1 (by decide) (by decide), h.1, if_neg (nI_ge hs (by omega))]
    simp only [letb]
    refine loop_rel (body := bd_X4_leakCount_14 rec (nI s)) (bot := fun _ _ _ => none) (fun j (ρ : SX) g => g (nI (sumN (fun s => sumN (fun l => b2n (leakP n T s l)) 6) s + sumN (fun l => b2n (leakP n T s l)) j)) (nI j) ρ) 6 (fun j ρ => KeepK τ ρ ∧ MKnown ρ n T)
      (fun o => ∃ τ', o = some (nI (sumN (fun s => sumN (fun l => b2n (leakP n T s l)) 6) n), τ') ∧ KeepK τ τ' ∧ MKnown τ' n T) ?_ ?_ FU 0 ρ (Nat.zero_le _) (by decide) ⟨hK, hKn⟩
    · intro rec2 l ρ hl ⟨hK, hKn⟩ hnext2
      obtain ⟨ρ1, e1, k1, h2, hR⟩ := M_firstPreventer hT (h.keepK hK) hKn (s := s) (l := l) (by omega) hl
      have hstep := fun (ρ1 : SX) q => hnext2 ρ1 q
      rw [bd_X4_leakCount_14, if_neg (show ¬ (6 : Int32) ≤ nI l from nI_ge hl (by decide)), M_isAsked hT (h.keepK hK) hs hl, Option.bind_some]
      simp only [letb]
      rw [nI_1]
      have e5 : leakP n T s l = (askP n T s l && (prevS n T s l == none)) := rfl
      cases ea : askP n T s l with
      | false =>
        have hst := hnext2 ρ ⟨hK, hKn⟩
        rw [sumN, ← Nat.add_assoc] at hst
        rw [if_pos b2iF, show (0 : Int32) = nI (b2n (leakP n T s l)) by rw [e5, ea]; rfl, nI_add]
        exact hst
      | true =>
        have hst := hnext2 ρ1 ⟨hK.trans k1, Or.inr ⟨h2, hR⟩⟩
        rw [sumN, ← Nat.add_assoc] at hst
        rw [if_neg b2iT, e1]
        simp only [bind2, Option.bind_some]
        by_cases c : prevS n T s l = none
        · rw [if_neg (fun q => q ((enc_pr hT).mpr c)), show (1 : Int32) = nI (b2n (leakP n T s l)) by rw [e5, ea, c]; rfl, nI_add]
          exact hst
        · rw [if_pos (fun q => c ((enc_pr hT).mp q)), show (0 : Int32) = nI (b2n (leakP n T s l)) by rw [e5, ea, ob_ne c]; rfl, nI_add]
          exact hst
    · intro rec2 ρ ⟨hK, hKn⟩
      rw [bd_X4_leakCount_14, if_pos (show (6 : Int32) ≤ nI 6 from nI_le (Nat.le_refl 6) (by decide))]
      simp only [letb]
      rw [nI_1]
      exact hnext ρ ⟨hK, hKn⟩
  · intro rec ρ ⟨hK, hKn⟩
    rw [bd_X4_leakCount_4, hK.1 1 (by decide) (by decide), h.1, if_pos (nI_le (Nat.le_refl n) (by omega))]
    exact ⟨ρ, rfl, hK, hKn⟩
/-! the net -/
def MPl (τ : SX) (L : List Nat) : Prop := τ.1 5 = nI L.length ∧ ArD (τ.2 3) L
theorem M_firstMarking {τ : SX} {n : Nat} {T : TT} (hT : Sys n T) (hP : MPl τ (PL n T)) : fn_X4_firstMarking τ = some (nI (withS n T 0)) := by
  unfold fn_X4_firstMarking
  simp only [letb]
  have hlen := PL_len (n := n) (T := T)
  refine loop_0m (body := bd_X4_firstMarking_4 τ) (bot := fun _ _ => none) (fun i g => g (nI (mask i fun p => (pg n T p).testBit 0)) (nI i)) (PL n T).length _ (by unfold FU; omega) ?_ ?_
  · intro rec i hi
    have bi := PL_lt hT hi
    rw [bd_X4_firstMarking_4, hP.1, if_neg (nI_ge hi (by omega)), ag_nI (by omega) (by decide), Option.bind_some, hP.2 i hi, show (PL n T).getD i 0 = pg n T i from rfl]
    have e : fn_X4_has τ (nI (pg n T i)) 0 = _ := M_has (a := pg n T i) (k := 0) (by omega) (by decide)
    rw [e, Option.bind_some]
    simp only [letb]
    rw [nI_1]
    cases c : (pg n T i).testBit 0 with
    | true => rw [if_neg b2iT, mask_step (P := fun p => (pg n T p).testBit 0) (by omega) c]
    | false => rw [if_pos b2iF, mask_skip (P := fun p => (pg n T p).testBit 0) c]
  · intro rec
    rw [bd_X4_firstMarking_4, hP.1, if_pos (nI_le (Nat.le_refl _) (by omega))]; rfl
theorem M_crossed {τ : SX} {n : Nat} {T : TT} (hT : Sys n T) (h : MB τ n T) (hP : MPl τ (PL n T)) {l w : Nat} (hl : l < 6) (hw : w < 4) : fn_X4_crossed τ (nI l) (nI w) = some (nI (crossS n T l w)) := by
  unfold fn_X4_crossed
  simp only [letb]
  have hlen := PL_len (n := n) (T := T)
  refine loop_0m (body := bd_X4_crossed_5 τ (nI l) (nI w)) (bot := fun _ _ => none) (fun i g => g (nI (mask i fun p => wayS T l (pg n T p) == w)) (nI i)) (PL n T).length _ (by unfold FU; omega) ?_ ?_
  · intro rec i hi
    have bi := PL_lt hT hi
    have hw2 := wayS_le T l (pg n T i)
    rw [bd_X4_crossed_5, hP.1, if_neg (nI_ge hi (by omega)), ag_nI (by omega) (by decide), Option.bind_some, hP.2 i hi, show (PL n T).getD i 0 = pg n T i from rfl, M_way hT h bi hl, Option.bind_some]
    simp only [letb]
    rw [nI_1]
    by_cases c : wayS T l (pg n T i) = w
    · rw [if_neg (fun q => q (congrArg nI c)), mask_step (P := fun p => wayS T l (pg n T p) == w) (by omega) (by simpa using c)]
    · rw [if_pos (nI_ne (by omega) (by omega) c), mask_skip (by simpa using c)]
  · intro rec
    rw [bd_X4_crossed_5, hP.1, if_pos (nI_le (Nat.le_refl _) (by omega))]; rfl
theorem ndf_0 {a b : Nat} : ndf a b = 0 ↔ b &&& a = a := by
  rw [show (ndf a b = 0) = (sub a b = true) by unfold sub; rw [beq_iff_eq], sub_iff]
  constructor
  · intro h
    apply Nat.eq_of_testBit_eq
    intro t
    rw [Nat.testBit_and]
    cases e : a.testBit t with
    | false => simp
    | true => rw [h t e]; rfl
  · intro h t ht
    have := congrArg (fun x => x.testBit t) h
    simp only [Nat.testBit_and, ht, Bool.and_true] at this
    exact this
/-- the marking behind a label that fires, none if it can't -/
def behO (n : Nat) (T : TT) (l m : Nat) : Option Nat := if canS n T l m then some (behS n T l m) else none
theorem M_behind {τ : SX} {n : Nat} {T : TT} (hT : Sys n T) (h : MB τ n T) (hP : MPl τ (PL n T)) {l m : Nat} (hl : l < 6) (hm : m < 2 ^ 30) : fn_X4_behind τ (nI m) (nI l) = some (enc (behO n T l m)) := by
  unfold fn_X4_behind
  have b2 := crossS_lt n T l 2
  have b1 := crossS_lt n T l 1
  have a2 : ndf (crossS n T l 2) m < 2 ^ 31 := Nat.lt_trans (ndf_lt b2) (by decide)
  have a1 : crossS n T l 1 &&& m < 2 ^ 31 := by have : crossS n T l 1 &&& m ≤ crossS n T l 1 := Nat.and_le_left; omega
  have a3 := ndf_lt (b := crossS n T l 2) hm
  have e2 : fn_X4_crossed τ (nI l) 2 = _ := M_crossed hT h hP hl (w := 2) (by decide)
  have e1 : fn_X4_crossed τ (nI l) 1 = _ := M_crossed hT h hP hl (w := 1) (by decide)
  rw [e2, Option.bind_some]
  simp only [letb]
  rw [e1, Option.bind_some, M_ends1 hT h hl, Option.bind_some, i_ndf (by omega) (by omega), i_and (by omega) (by omega), i_ndf (by omega) (by omega), i_or (by omega) (by omega)]
  unfold behO canS
  by_cases c0 : src T l (fun _ => true) = 0
  · rw [if_pos ((nI_z (src_lt' _ _ _)).mpr c0), c0]; rfl
  · rw [if_neg (fun q => c0 ((nI_z (src_lt' _ _ _)).mp q)), show (src T l (fun _ => true) != 0) = true by simpa using c0]
    by_cases c2 : ndf (crossS n T l 2) m = 0
    · rw [if_neg (fun q => q ((nI_z a2).mpr c2)), show (m &&& crossS n T l 2 == crossS n T l 2) = true by simpa using ndf_0.mp c2]
      by_cases c1 : crossS n T l 1 &&& m = 0
      · rw [if_pos ((nI_z a1).mpr c1), show (m &&& crossS n T l 1 == 0) = true by rw [Nat.and_comm]; simpa using c1]; rfl
      · rw [if_neg (fun q => c1 ((nI_z a1).mp q)), show (m &&& crossS n T l 1 == 0) = false by rw [Nat.and_comm]; simpa using c1]; rfl
    · rw [if_pos (fun q => c2 ((nI_z a2).mp q)), show (m &&& crossS n T l 2 == crossS n T l 2) = false by simpa using fun q => c2 (ndf_0.mpr q)]; rfl
def MMk (τ : SX) (L : List Nat) : Prop := τ.1 7 = nI L.length ∧ ArD (τ.2 4) L
def idxO (L : List Nat) (m : Nat) : Option Nat := fnd L.length fun i => L.getD i 0 == m
theorem M_numberOf {τ : SX} {L : List Nat} (hM : MMk τ L) (hL : OkL L) {m : Nat} (hm : m < 2 ^ 30) : fn_X4_numberOf τ (nI m) = some (enc (idxO L m)) := by
  unfold fn_X4_numberOf
  simp only [letb]
  have hlen := hL.1
  refine Eq.trans (loop_find (body := bd_X4_numberOf_2 τ (nI m)) (bot := fun _ => none) (fun i g => g (nI i)) L.length (fun i => L.getD i 0 == m) (fun i => some (nI i)) (some (-1)) (by unfold FU; omega) ?_ ?_ ?_) ?_
  · intro rec i hi hp
    have bi := hL.2.2 _ (getD_mem hi)
    rw [bd_X4_numberOf_2, hM.1, if_neg (nI_ge hi (by omega)), ag_nI (by omega) (by decide), Option.bind_some, hM.2 i hi, if_pos (nI_ne (by omega) (by omega) (by simpa using hp))]
    simp only [letb]
    rw [nI_1]
  · intro rec i hi hp
    have bi := hL.2.2 _ (getD_mem hi)
    rw [bd_X4_numberOf_2, hM.1, if_neg (nI_ge hi (by omega)), ag_nI (by omega) (by decide), Option.bind_some, hM.2 i hi, if_neg (fun q => q (congrArg nI (by simpa using hp)))]
  · intro rec
    rw [bd_X4_numberOf_2, hM.1, if_pos (nI_le (Nat.le_refl _) (by omega))]
  · show _ = some (enc (idxO L m))
    unfold idxO
    cases fnd L.length (fun i => L.getD i 0 == m) <;> rfl
theorem idx_mem {L : List Nat} {m : Nat} : idxO L m = none ↔ L.contains m = false := by
  unfold idxO
  constructor
  · intro e
    rw [Bool.eq_false_iff, ne_eq, List.contains_iff_mem]
    intro hmem
    obtain ⟨j, hj, e2⟩ := List.getElem_of_mem hmem
    have := fnd_none e j hj
    rw [List.getD_eq_getElem?_getD, List.getElem?_eq_getElem hj] at this
    simp [e2] at this
  · intro h
    refine fnd_of_none fun q hq => ?_
    rw [Bool.eq_false_iff]
    intro e
    rw [Bool.eq_false_iff, ne_eq, List.contains_iff_mem] at h
    apply h
    rw [← show L.getD q 0 = m by simpa using e]
    exact getD_mem hq
def KeepMM (τ τ' : SX) : Prop := (∀ k, k ≠ 7 → τ'.1 k = τ.1 k) ∧ ∀ a, a ≠ 4 → τ'.2 a = τ.2 a
theorem KeepMM.rf {τ : SX} : KeepMM τ τ := ⟨fun _ _ => rfl, fun _ _ => rfl⟩
theorem MB.keepMM {τ τ' : SX} {n : Nat} {T : TT} (h : MB τ n T) (hk : KeepMM τ τ') : MB τ' n T := ⟨(hk.1 1 (by decide)).trans h.1, fun s l hs hl => by rw [hk.2 1 (by decide)]; exact h.2 s l hs hl⟩
theorem MPl.keepMM {τ τ' : SX} {L : List Nat} (h : MPl τ L) (hk : KeepMM τ τ') : MPl τ' L := ⟨(hk.1 5 (by decide)).trans h.1, by rw [hk.2 3 (by decide)]; exact h.2⟩
theorem exL_stop {n : Nat} {T : TT} {L : List Nat} {k : Nat} : ∀ {l : Nat}, 200 ≤ (exL n T L k l).length → ∀ j, exL n T L k (l + j) = exL n T L k l
  | l, h, 0 => rfl
  | l, h, j + 1 => by
    have ih := exL_stop (l := l) h j
    show exL n T L k (l + j + 1) = _
    rw [exL, ih]
    split
    · unfold push
      rw [if_neg (by omega)]
    · rfl
theorem M_findMarkings {τ : SX} {n : Nat} {T : TT} (hT : Sys n T) (h : MB τ n T) (hP : MPl τ (PL n T)) : ∃ τ', fn_X4_findMarkings τ = some τ' ∧ KeepMM τ τ' ∧ MMk τ' (ML n T) := by
  unfold fn_X4_findMarkings
  rw [M_firstMarking hT hP, Option.bind_some, show (0 : Int32) = nI 0 from rfl, as_nI (by decide) (by decide), Option.bind_some]
  simp only [letb]
  -- a loop whose head may stand at k ≤ 200
  refine loop_rel (body := bd_X4_findMarkings_17) (bot := fun _ _ => none) (fun i (ρ : SX) g => g (nI i) ρ) 200 (fun i ρ => KeepMM τ ρ ∧ MMk ρ (mkS n T i)) (fun o => ∃ τ', o = some τ' ∧ KeepMM τ τ' ∧ MMk τ' (ML n T)) ?_ ?_ FU 0 _ (Nat.zero_le _) (by decide) ⟨⟨fun k hk => by rw [ss_ne hk, sa1], fun a ha => by rw [ss2, sa2 ha]⟩, ss_self, ?_⟩
  · intro rec i ρ hi ⟨hK, hM⟩ hnext
    have hok := mkS_ok (n := n) (T := T) i
    rw [bd_X4_findMarkings_17, hM.1]
    by_cases c : (mkS n T i).length ≤ i
    · rw [if_pos (nI_le c (by omega))]
      refine ⟨ρ, rfl, hK, ?_⟩
      have := mkS_fix c (200 - i)
      rw [show i + (200 - i) = 200 by omega] at this
      unfold ML
      rw [this]; exact hM
    · rw [if_neg (nI_ge (by omega) (by have := hok.1; omega))]
      simp only [letb]
      have hi2 : i < (mkS n T i).length := by omega
      refine loop_rel (body := bd_X4_findMarkings_27 rec (nI i)) (bot := fun _ _ => none) (fun l (ρ : SX) g => g (nI l) ρ) 6 (fun l ρ => KeepMM τ ρ ∧ MMk ρ (exL n T (mkS n T i) i l)) (fun o => ∃ τ', o = some τ' ∧ KeepMM τ τ' ∧ MMk τ' (ML n T)) ?_ ?_ FU 0 ρ (Nat.zero_le _) (by decide) ⟨hK, hM⟩
      · intro rec2 l ρ hl ⟨hK, hM⟩ hnext2
        have hok2 := exL_ok (n := n) (T := T) hok hi2 l
        have hlen : i < (exL n T (mkS n T i) i l).length := by
          obtain ⟨r, hr⟩ := exL_pre (n := n) (T := T) (L := mkS n T i) (k := i) l
          rw [hr, List.length_append]; omega
        have bm := hok2.2.2 _ (getD_mem hlen)
        have hb := h.keepMM hK
        have hp := hP.keepMM hK
        rw [bd_X4_findMarkings_27]
        simp only [letb]
        rw [if_neg (show ¬ (6 : Int32) ≤ nI l from nI_ge hl (by decide)), hM.1, nI_1, nI_1]
        by_cases c200 : 200 ≤ (exL n T (mkS n T i) i l).length
        · rw [if_pos (show (200 : Int32) ≤ nI _ from nI_le c200 (by have := hok2.1; omega))]
          refine hnext ρ ⟨hK, ?_⟩
          have := exL_stop (n := n) (T := T) (L := mkS n T i) (k := i) c200 (6 - l)
          rw [show l + (6 - l) = 6 by omega] at this
          rw [mkS, if_pos hi2, this]; exact hM
        · rw [if_neg (show ¬ (200 : Int32) ≤ nI _ from nI_ge (b := 200) (by omega) (by decide)), ag_nI (by omega) (by decide), Option.bind_some, hM.2 i hlen, M_behind hT hb hp hl bm, Option.bind_some]
          unfold behO
          cases e : canS n T l ((exL n T (mkS n T i) i l).getD i 0) with
          | false =>
            rw [if_neg (show ¬ false = true by decide), if_pos (show enc none = -1 from rfl)]
            exact hnext2 ρ ⟨hK, by rw [exL, e]; exact hM⟩
          | true =>
            have bb := behS_lt (n := n) (T := T) (l := l) bm
            rw [if_pos (show true = true from rfl), if_neg (show ¬ enc (some _) = -1 from i_neg1 (by omega)), show ∀ x, enc (some x) = nI x from fun _ => rfl, M_numberOf hM hok2 bb, Option.bind_some]
            cases e3 : idxO (exL n T (mkS n T i) i l) (behS n T l ((exL n T (mkS n T i) i l).getD i 0)) with
            | none =>
              rw [if_pos (show enc none = -1 from rfl), as_nI (by omega) (by decide), Option.bind_some]
              have ec := idx_mem.mp e3
              have ep : exL n T (mkS n T i) i (l + 1) = exL n T (mkS n T i) i l ++ [behS n T l ((exL n T (mkS n T i) i l).getD i 0)] := by
                rw [exL, e, if_pos rfl]
                unfold push
                rw [if_pos (by omega), if_neg (by rw [ec]; decide)]
              refine hnext2 _ ⟨⟨fun k hk => by rw [ss_ne hk, sa1]; exact hK.1 k hk, fun a ha => by rw [ss2, sa2 ha]; exact hK.2 a ha⟩, ?_, ?_⟩
              · rw [ss_self, sa1, hM.1, nI_1, ep, List.length_append]; rfl
              · rw [ep]
                exact hM.2.push (fun j hj => by rw [ss2, sa_self, if_neg hj]) (by rw [ss2, sa_self, if_pos rfl])
            | some j =>
              have hj := (fnd_some e3).1
              rw [if_neg (show ¬ enc (some j) = -1 from i_neg1 (by have := hok2.1; omega))]
              refine hnext2 ρ ⟨hK, ?_⟩
              have ec : (exL n T (mkS n T i) i l).contains (behS n T l ((exL n T (mkS n T i) i l).getD i 0)) = true := by
                cases q : (exL n T (mkS n T i) i l).contains (behS n T l ((exL n T (mkS n T i) i l).getD i 0)) with
                | true => rfl
                | false => rw [idx_mem.mpr q] at e3; cases e3
              rw [exL, e, if_pos rfl]
              unfold push
              rw [if_pos (by omega), if_pos ec]
              exact hM
      · intro rec2 ρ ⟨hK, hM⟩
        rw [bd_X4_findMarkings_27]
        simp only [letb]
        rw [if_pos (show (6 : Int32) ≤ nI 6 from nI_le (Nat.le_refl 6) (by decide)), nI_1]
        exact hnext ρ ⟨hK, by rw [mkS, if_pos hi2]; exact hM⟩
  · intro rec ρ ⟨hK, hM⟩
    have hok := mkS_ok (n := n) (T := T) 200
    rw [bd_X4_findMarkings_17, hM.1, if_pos (nI_le hok.1 (by decide))]
    exact ⟨ρ, rfl, hK, hM⟩
  · intro i hi
    have : i = 0 := by
      have : (mkS n T 0).length = 1 := rfl
      omega
    subst this
    rw [ss2, sa_self, if_pos rfl]; rfl
