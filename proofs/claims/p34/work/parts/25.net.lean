/-! 25: the net -/
theorem sub_iff {a b : Nat} : sub a b = true ↔ ∀ t, a.testBit t = true → b.testBit t = true := by
  unfold sub
  rw [beq_iff_eq]
  constructor
  · intro h t ht
    have := congrArg (fun x => x.testBit t) h
    simp only [ndf_bit, Nat.zero_testBit, ht, Bool.true_and, Bool.not_eq_false'] at this
    exact this
  · intro h
    apply Nat.eq_of_testBit_eq
    intro t
    rw [ndf_bit, Nat.zero_testBit]
    cases e : a.testBit t with
    | false => rfl
    | true => rw [h t e]; rfl
theorem sub_trans {a b c : Nat} (h1 : sub a b = true) (h2 : sub b c = true) : sub a c = true := sub_iff.mpr fun t ht => sub_iff.mp h2 t (sub_iff.mp h1 t ht)
/-- the least regions among the first k -/
def pT (n : Nat) (T : TT) (k : Nat) : List Nat := ((List.range k).filter (leastS n T)).map (rg n T)
def PL (n : Nat) (T : TT) : List Nat := (pT n T (RgL n T).length).take 30
def pg (n : Nat) (T : TT) (p : Nat) : Nat := (PL n T).getD p 0
theorem pT_succ {n : Nat} {T : TT} {k : Nat} : pT n T (k + 1) = if leastS n T k then pT n T k ++ [rg n T k] else pT n T k := by
  unfold pT
  rw [List.range_succ, List.filter_append]
  cases h : leastS n T k with
  | true => rw [if_pos rfl, List.filter_cons_of_pos (by rw [h]), List.map_append]; rfl
  | false => rw [if_neg (by decide), List.filter_cons_of_neg (by rw [h]; decide)]; simp
theorem pT_mem {n : Nat} {T : TT} {k a : Nat} : a ∈ pT n T k ↔ ∃ j, j < k ∧ leastS n T j = true ∧ rg n T j = a := by
  unfold pT
  rw [List.mem_map]
  constructor
  · rintro ⟨j, h1, h2⟩
    rw [List.mem_filter, List.mem_range] at h1
    exact ⟨j, h1.1, h1.2, h2⟩
  · rintro ⟨j, h1, h2, h3⟩
    exact ⟨j, by rw [List.mem_filter, List.mem_range]; exact ⟨h1, h2⟩, h3⟩
theorem least_hold {n : Nat} {T : TT} {k : Nat} : (∃ a, a ∈ pT n T k ∧ sub a (rg n T k) = true) ↔ leastS n T k = false := by
  unfold leastS
  constructor
  · rintro ⟨a, ha, hs⟩
    obtain ⟨j, h1, -, rfl⟩ := pT_mem.mp ha
    cases e : fnd k (fun j => sub (rg n T j) (rg n T k)) with
    | none => rw [fnd_none e j h1] at hs; cases hs
    | some i => rfl
  · intro h
    cases e : fnd k (fun j => sub (rg n T j) (rg n T k)) with
    | none => rw [e] at h; cases h
    | some j =>
      obtain ⟨h1, h2, h3⟩ := fnd_some e
      refine ⟨rg n T j, pT_mem.mpr ⟨j, h1, ?_, rfl⟩, h2⟩
      unfold leastS
      rw [fnd_of_none fun q hq => ?_]
      · rfl
      · rw [Bool.eq_false_iff]
        intro hs
        have := h3 q hq
        rw [sub_trans hs h2] at this
        cases this
theorem pT_le {n : Nat} {T : TT} {k m : Nat} (h : k ≤ m) : ∃ l, pT n T m = pT n T k ++ l := by
  induction m with
  | zero => exact ⟨[], by rw [show k = 0 by omega]; simp⟩
  | succ m ih =>
    by_cases c : k = m + 1
    · exact ⟨[], by rw [c]; simp⟩
    · obtain ⟨l, hl⟩ := ih (by omega)
      rw [pT_succ]
      split
      · exact ⟨l ++ [rg n T m], by rw [hl, List.append_assoc]⟩
      · exact ⟨l, hl⟩
theorem PL_len {n : Nat} {T : TT} : (PL n T).length ≤ 30 := by
  unfold PL
  rw [List.length_take]
  omega
theorem getD_mem {L : List Nat} {i : Nat} (h : i < L.length) : L.getD i 0 ∈ L := by
  rw [List.getD_eq_getElem?_getD, List.getElem?_eq_getElem h]
  exact List.getElem_mem h
theorem PL_lt {n : Nat} {T : TT} (hT : Sys n T) {p : Nat} (hp : p < (PL n T).length) : pg n T p < 2 ^ 12 := by
  have h : pg n T p ∈ pT n T (RgL n T).length := List.mem_of_mem_take (getD_mem hp)
  obtain ⟨j, h1, -, h3⟩ := pT_mem.mp h
  rw [← h3]
  exact rg_lt hT h1
/-- an array's first cells hold a list -/
def ArD (f : Nat → Int32) (L : List Nat) : Prop := ∀ i, i < L.length → f i = nI (L.getD i 0)
def PlD (σ : SX) (L : List Nat) : Prop := σ.1 4 = nI L.length ∧ ArD (σ.2 9) L
theorem ArD.push {f g : Nat → Int32} {L : List Nat} {a : Nat} (h : ArD f L) (h1 : ∀ j, j ≠ L.length → g j = f j) (h2 : g L.length = nI a) : ArD g (L ++ [a]) := by
  intro i hi
  rw [List.length_append] at hi
  simp at hi
  by_cases c : i = L.length
  · rw [c, gd_r, h2]
  · rw [gd_l (by omega), h1 i c, h i (by omega)]
theorem L_holdsPlace {σ : SX} {L : List Nat} (h : PlD σ L) (hL : L.length ≤ 30) (hb : ∀ a, a ∈ L → a < 2 ^ 12) {a : Nat} (ha : a < 2 ^ 12) : fn_X0_holdsPlace σ (nI a) = some (b2i (anyB L.length fun p => sub (L.getD p 0) a)) := by
  unfold fn_X0_holdsPlace
  simp only [letb]
  have := loop_find (body := bd_X0_holdsPlace_2 σ (nI a)) (bot := fun _ => none) (fun i g => g (nI i)) L.length (fun p => sub (L.getD p 0) a) (fun _ => some 1) (some 0) (by unfold FU; omega)
    (fun rec i hi hp => by
      have bi := hb _ (getD_mem hi)
      unfold bd_X0_holdsPlace_2
      rw [h.1, if_neg (nI_ge hi (by omega)), ag_nI (by omega) (by decide), Option.bind_some, h.2 i hi, if_pos (fun q => by rw [(i_sub (by omega) (by omega)).mp q] at hp; cases hp)]
      simp only [letb]
      rw [nI_1])
    (fun rec i hi hp => by
      have bi := hb _ (getD_mem hi)
      unfold bd_X0_holdsPlace_2
      rw [h.1, if_neg (nI_ge hi (by omega)), ag_nI (by omega) (by decide), Option.bind_some, h.2 i hi, if_neg (fun q => q ((i_sub (by omega) (by omega)).mpr hp))]
      rfl)
    (fun rec => by
      unfold bd_X0_holdsPlace_2
      rw [h.1, if_pos (nI_le (Nat.le_refl _) (by omega))]
      rfl)
  refine Eq.trans this ?_
  have e := fnd_any (N := L.length) (p := fun p => sub (L.getD p 0) a)
  cases e2 : fnd L.length (fun p => sub (L.getD p 0) a) with
  | none => rw [e2] at e; rw [show anyB L.length (fun p => sub (L.getD p 0) a) = false by simpa using e.symm]; rfl
  | some j => rw [e2] at e; rw [show anyB L.length (fun p => sub (L.getD p 0) a) = true by simpa using e.symm]; rfl
/-- what making the places keeps -/
def KeepN (σ σ' : SX) : Prop := (∀ k, k = 0 ∨ k = 3 ∨ k = 6 → σ'.1 k = σ.1 k) ∧ ∀ a, a = 5 ∨ 13 ≤ a → σ'.2 a = σ.2 a
theorem KeepN.trans {σ σ' σ'' : SX} (h1 : KeepN σ σ') (h2 : KeepN σ' σ'') : KeepN σ σ'' := ⟨fun k a => (h2.1 k a).trans (h1.1 k a), fun a b => (h2.2 a b).trans (h1.2 a b)⟩
theorem EB.keepN {σ σ' : SX} {n : Nat} {T : TT} (h : EB σ n T) (hk : KeepN σ σ') : EB σ' n T := by
  refine ⟨by rw [hk.1 0 (Or.inl rfl)]; exact h.1, fun l s hl hs => ?_, fun l hl => ?_⟩
  · rw [hk.2 _ (Or.inr (by omega))]; exact h.2.1 l s hl hs
  · rw [hk.2 _ (Or.inl rfl)]; exact h.2.2 l hl
theorem StOk.keepN {σ σ' : SX} {n : Nat} {T : TT} (h : StOk σ n T) (hk : KeepN σ σ') : StOk σ' n T :=
  ⟨h.1.keepN hk, fun l hl => (h.2 l hl).moved (hk.2 _ (Or.inr (by omega))) (hk.2 _ (Or.inr (by omega))) (fun _ => rfl)⟩
theorem StOk.of {σ σ' : SX} {n : Nat} {T : TT} (h : StOk σ n T) (h0 : σ'.1 0 = σ.1 0) (h2 : σ'.2 = σ.2) : StOk σ' n T := by
  refine ⟨⟨h0.trans h.1.1, ?_, ?_⟩, fun l hl => (h.2 l hl).moved (by rw [h2]) (by rw [h2]) (fun _ => rfl)⟩
  · rw [h2]; exact h.1.2.1
  · rw [h2]; exact h.1.2.2
theorem RegD.same {σ σ' : SX} {L : List Nat} (h : RegD σ L) (h1 : σ'.1 1 = σ.1 1) (h2 : σ'.2 8 = σ.2 8) : RegD σ' L := ⟨h1.trans h.1, fun i hi => by rw [h2]; exact h.2 i hi⟩
theorem Known.same {σ σ' : SX} {n : Nat} {T : TT} (h : Known σ n T) (h0 : σ'.1 2 = σ.1 2) (h1 : σ'.1 1 = σ.1 1) (h2 : σ'.2 8 = σ.2 8) : Known σ' n T := by
  rcases h with h | ⟨h, hR⟩
  · exact Or.inl (h0.trans h)
  · exact Or.inr ⟨h0.trans h, hR.same h1 h2⟩
theorem L_choosePlaces {σ : SX} {n : Nat} {T : TT} (hT : Sys n T) (h : StOk σ n T) (hk : Known σ n T) :
    ∃ σ', fn_X0_choosePlaces σ = some σ' ∧ KeepN σ σ' ∧ σ'.1 2 = 1 ∧ RegD σ' (RgL n T) ∧ PlD σ' (PL n T) := by
  unfold fn_X0_choosePlaces
  simp only [letb]
  have k0 : KeepR σ (ss σ 4 0) ∨ True := Or.inr trivial
  have hs : StOk (ss σ 4 0) n T := h.keepN ⟨fun k hk => ss_ne (by omega), fun _ _ => rfl⟩
  have hkn : Known (ss σ 4 0) n T := hk.same (ss_ne (by decide)) (ss_ne (by decide)) rfl
  obtain ⟨σ1, e1, k1, h2, hR⟩ := L_count hT hs hkn
  rw [e1]
  simp only [bind2, Option.bind_some]
  have hlen := RgL_len hT
  refine loop_rel (body := bd_X0_choosePlaces_15 (nI (RgL n T).length)) (bot := fun _ _ => none) (fun i (τ : SX) g => g (nI i) τ) (RgL n T).length
    (fun i τ => KeepN σ τ ∧ τ.1 2 = 1 ∧ RegD τ (RgL n T) ∧ PlD τ (pT n T i) ∧ (pT n T i).length ≤ 30)
    (fun o => ∃ σ', o = some σ' ∧ KeepN σ σ' ∧ σ'.1 2 = 1 ∧ RegD σ' (RgL n T) ∧ PlD σ' (PL n T)) ?_ ?_ FU 0 σ1 (Nat.zero_le _) (by unfold FU; omega) ⟨⟨fun k a => ?_, fun a b => ?_⟩, h2, hR, ?_, ?_⟩
  · intro rec i τ hi ⟨hK, h2, hR, hP, hl⟩ hnext
    unfold bd_X0_choosePlaces_15
    rw [if_neg (nI_ge hi (by omega)), hP.1]
    by_cases c30 : 30 ≤ (pT n T i).length
    · rw [if_pos (show (30 : Int32) ≤ nI _ from nI_le c30 (by omega))]
      refine ⟨τ, rfl, hK, h2, hR, ?_⟩
      have e : PL n T = pT n T i := by
        obtain ⟨l, hl2⟩ := pT_le (n := n) (T := T) (Nat.le_of_lt hi)
        unfold PL
        rw [hl2, List.take_append_of_le_length c30, List.take_of_length_le hl]
      rw [e]
      exact hP
    · have bi := rg_lt hT hi
      have hbL : ∀ a, a ∈ pT n T i → a < 2 ^ 12 := fun a ha => by
        obtain ⟨j, h1, -, h3⟩ := pT_mem.mp ha
        rw [← h3]; exact rg_lt hT (by omega)
      rw [if_neg (show ¬ (30 : Int32) ≤ nI _ from nI_ge (b := 30) (by omega) (by decide)), L_at hT hR hi, Option.bind_some]
      simp only [letb]
      rw [L_holdsPlace hP hl hbL bi, Option.bind_some, nI_1]
      have hh : (anyB (pT n T i).length fun p => sub ((pT n T i).getD p 0) (rg n T i)) = !leastS n T i := by
        apply bool_iff
        rw [anyB_iff, Bool.not_eq_true', ← least_hold]
        constructor
        · rintro ⟨p, hp, hs⟩; exact ⟨_, getD_mem hp, hs⟩
        · rintro ⟨a, ha, hs⟩
          obtain ⟨p, hp, rfl⟩ := List.getElem_of_mem ha
          exact ⟨p, hp, by rw [List.getD_eq_getElem?_getD, List.getElem?_eq_getElem hp]; exact hs⟩
      rw [hh]
      cases e : leastS n T i with
      | false =>
        rw [if_pos (show ¬ b2i (!false) = 0 by decide)]
        refine hnext τ ⟨hK, h2, hR, ?_, ?_⟩
        · rw [pT_succ, e]; exact hP
        · rw [pT_succ, e]; exact hl
      | true =>
        rw [if_neg (show ¬ ¬ b2i (!true) = 0 by decide), as_nI (by omega) (by decide), Option.bind_some]
        refine hnext _ ⟨⟨fun k a => ?_, fun a b => ?_⟩, ?_, ?_, ⟨?_, ?_⟩, ?_⟩
        · rw [ss_ne (by omega), sa1]; exact hK.1 k a
        · rw [ss2, sa2 (by omega)]; exact hK.2 a b
        · rw [ss_ne (by decide), sa1]; exact h2
        · exact hR.same (by rw [ss_ne (by decide), sa1]) (by rw [ss2, sa2 (by decide)])
        · rw [ss_self, sa1, hP.1, nI_1, pT_succ, e, if_pos rfl, List.length_append]; rfl
        · rw [pT_succ, e, if_pos rfl]
          exact hP.2.push (fun j hj => by rw [ss2, sa_self, if_neg hj]) (by rw [ss2, sa_self, if_pos rfl])
        · rw [pT_succ, e, if_pos rfl, List.length_append]; simp; omega
  · intro rec τ ⟨hK, h2, hR, hP, hl⟩
    unfold bd_X0_choosePlaces_15
    rw [if_pos (nI_le (Nat.le_refl _) (by omega))]
    refine ⟨τ, rfl, hK, h2, hR, ?_⟩
    have e : PL n T = pT n T (RgL n T).length := List.take_of_length_le hl
    rw [e]; exact hP
  · rw [k1.1 k (by omega) (by omega), ss_ne (by omega)]
  · rw [k1.2 a (by omega)]; rfl
  · refine ⟨?_, fun i hi => by simp [pT] at hi⟩
    rw [k1.1 4 (by decide) (by decide), ss_self]; rfl
  · simp [pT]
/-- the places that a label crosses in a way -/
def crossS (n : Nat) (T : TT) (l w : Nat) : Nat := mask (PL n T).length fun p => wayS T l (pg n T p) == w
/-- the places whose regions have the state -/
def withS (n : Nat) (T : TT) (s : Nat) : Nat := mask (PL n T).length fun p => (pg n T p).testBit s
theorem crossS_lt (n : Nat) (T : TT) (l w : Nat) : crossS n T l w < 2 ^ 30 := mask_lt' _ PL_len
theorem withS_lt (n : Nat) (T : TT) (s : Nat) : withS n T s < 2 ^ 30 := mask_lt' _ PL_len
theorem L_placesCrossed {σ : SX} {n : Nat} {T : TT} (hT : Sys n T) (h : StOk σ n T) (hP : PlD σ (PL n T)) {l w : Nat} (hl : l < 6) (hw : w < 4) : fn_X0_placesCrossed σ (nI l) (nI w) = some (nI (crossS n T l w)) := by
  unfold fn_X0_placesCrossed
  simp only [letb]
  have hlen := PL_len (n := n) (T := T)
  have := loop_0m (body := bd_X0_placesCrossed_5 σ (nI l) (nI w)) (bot := fun _ _ => none) (fun i g => g (nI (mask i fun p => wayS T l (pg n T p) == w)) (nI i)) (PL n T).length (some (nI (crossS n T l w))) (by unfold FU; omega)
    (fun rec i hi => by
      have bi := PL_lt hT hi
      have hw2 := wayS_le T l (pg n T i)
      unfold bd_X0_placesCrossed_5
      rw [hP.1, if_neg (nI_ge hi (by omega)), ag_nI (by omega) (by decide), Option.bind_some, hP.2 i hi, show (PL n T).getD i 0 = pg n T i from rfl, L_way h.1 hl (h.2 l hl) bi, Option.bind_some]
      simp only [letb]
      rw [nI_1]
      by_cases c : wayS T l (pg n T i) = w
      · rw [if_neg (fun q => q (congrArg nI c)), mask_step (P := fun p => wayS T l (pg n T p) == w) (by omega) (by simpa using c)]
      · rw [if_pos (nI_ne (by omega) (by omega) c), mask_skip (by simpa using c)])
    (fun rec => by
      unfold bd_X0_placesCrossed_5
      rw [hP.1, if_pos (nI_le (Nat.le_refl _) (by omega))]
      rfl)
  exact this
theorem L_placesWith {σ : SX} {n : Nat} {T : TT} (hT : Sys n T) (hP : PlD σ (PL n T)) {s : Nat} (hs : s < 12) : fn_X0_placesWith σ (nI s) = some (nI (withS n T s)) := by
  unfold fn_X0_placesWith
  simp only [letb]
  have hlen := PL_len (n := n) (T := T)
  have := loop_0m (body := bd_X0_placesWith_4 σ (nI s)) (bot := fun _ _ => none) (fun i g => g (nI (mask i fun p => (pg n T p).testBit s)) (nI i)) (PL n T).length (some (nI (withS n T s))) (by unfold FU; omega)
    (fun rec i hi => by
      have bi := PL_lt hT hi
      unfold bd_X0_placesWith_4
      rw [hP.1, if_neg (nI_ge hi (by omega)), ag_nI (by omega) (by decide), Option.bind_some, hP.2 i hi, show (PL n T).getD i 0 = pg n T i from rfl, L_has (by omega) (by omega), Option.bind_some]
      simp only [letb]
      rw [nI_1]
      cases c : (pg n T i).testBit s with
      | true => rw [if_neg b2iT, mask_step (P := fun p => (pg n T p).testBit s) (by omega) c]
      | false => rw [if_pos b2iF, mask_skip (P := fun p => (pg n T p).testBit s) c])
    (fun rec => by
      unfold bd_X0_placesWith_4
      rw [hP.1, if_pos (nI_le (Nat.le_refl _) (by omega))]
      rfl)
  exact this
/-- the net, but its markings -/
def NetD (σ : SX) (n : Nat) (T : TT) : Prop := PlD σ (PL n T) ∧ (∀ l, l < 6 → σ.2 10 l = nI (crossS n T l 2) ∧ σ.2 11 l = nI (crossS n T l 1)) ∧ σ.1 5 = nI (withS n T 0)
theorem L_make {σ : SX} {n : Nat} {T : TT} (hT : Sys n T) (h : StOk σ n T) (hk : Known σ n T) :
    ∃ σ', fn_X0_make σ = some σ' ∧ StOk σ' n T ∧ Known σ' n T ∧ NetD σ' n T ∧ σ'.1 3 = 1 ∧ σ'.1 7 = 0 := by
  unfold fn_X0_make
  obtain ⟨σ1, e1, k1, h2, hR, hP⟩ := L_choosePlaces hT h hk
  rw [e1, Option.bind_some]
  simp only [letb]
  refine loop_rel (body := bd_X0_make_6) (bot := fun _ _ => none) (fun i (τ : SX) g => g (nI i) τ) 6
    (fun i τ => StOk τ n T ∧ Known τ n T ∧ PlD τ (PL n T) ∧ ∀ l, l < i → τ.2 10 l = nI (crossS n T l 2) ∧ τ.2 11 l = nI (crossS n T l 1))
    (fun o => ∃ σ', o = some σ' ∧ StOk σ' n T ∧ Known σ' n T ∧ NetD σ' n T ∧ σ'.1 3 = 1 ∧ σ'.1 7 = 0) ?_ ?_ FU 0 σ1 (Nat.zero_le _) (by decide) ⟨h.keepN k1, Or.inr ⟨h2, hR⟩, hP, fun l hl => by omega⟩
  · intro rec i τ hi ⟨hs, hkn, hP, hc⟩ hnext
    unfold bd_X0_make_6
    have e2 : fn_X0_placesCrossed τ (nI i) 2 = _ := L_placesCrossed hT hs hP hi (w := 2) (by decide)
    rw [if_neg (show ¬ (6 : Int32) ≤ nI i from nI_ge hi (by decide)), e2, Option.bind_some, as_nI hi (by decide), Option.bind_some]
    have kA : ∀ (a : Nat) (v : Int32) (τ : SX), a = 10 ∨ a = 11 → KeepN τ (sa τ a i v) := fun a v τ ha => ⟨fun k _ => rfl, fun b hb => sa2 (by omega)⟩
    have hs1 := hs.keepN (kA 10 (nI (crossS n T i 2)) τ (Or.inl rfl))
    have hP1 : PlD (sa τ 10 i (nI (crossS n T i 2))) (PL n T) := ⟨hP.1, by rw [sa2 (by decide)]; exact hP.2⟩
    have e3 : fn_X0_placesCrossed (sa τ 10 i (nI (crossS n T i 2))) (nI i) 1 = _ := L_placesCrossed hT hs1 hP1 hi (w := 1) (by decide)
    rw [e3, Option.bind_some, as_nI hi (by decide), Option.bind_some]
    simp only [letb]
    rw [nI_1]
    refine hnext _ ⟨hs1.keepN (kA 11 _ _ (Or.inr rfl)), hkn.same rfl rfl (by rw [sa2 (by decide), sa2 (by decide)]), ⟨hP.1, by rw [sa2 (by decide)]; exact hP1.2⟩, fun l hl => ?_⟩
    rw [sa_ne (by decide), sa_self, sa_self, sa_ne (by decide)]
    by_cases c : l = i
    · subst c; rw [if_pos rfl, if_pos rfl]; exact ⟨rfl, rfl⟩
    · rw [if_neg c, if_neg c]; exact hc l (by omega)
  · intro rec τ ⟨hs, hkn, hP, hc⟩
    unfold bd_X0_make_6
    have e2 : fn_X0_placesWith τ 0 = _ := L_placesWith hT hP (s := 0) (by decide)
    rw [if_pos (show (6 : Int32) ≤ nI 6 from nI_le (Nat.le_refl 6) (by decide)), e2, Option.bind_some]
    simp only [letb]
    refine ⟨_, rfl, hs.of ?_ rfl, hkn.same ?_ ?_ rfl, ⟨⟨?_, hP.2⟩, fun l hl => hc l hl, ?_⟩, ss_self, ?_⟩
    · rw [ss_ne (by decide), ss_ne (by decide), ss_ne (by decide)]
    · rw [ss_ne (by decide), ss_ne (by decide), ss_ne (by decide)]
    · rw [ss_ne (by decide), ss_ne (by decide), ss_ne (by decide)]
    · rw [ss_ne (by decide), ss_ne (by decide), ss_ne (by decide)]; exact hP.1
    · rw [ss_ne (by decide), ss_ne (by decide), ss_self]
    · rw [ss_ne (by decide), ss_self]
