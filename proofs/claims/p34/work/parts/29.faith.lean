/-! 78: the markings of a net that behaves like its system -/
theorem any_no {N : Nat} {p : Nat → Bool} (h : anyB N p = false) {k : Nat} (hk : k < N) : p k = false := by
  cases e : p k with
  | false => rfl
  | true => rw [anyB_iff.mpr ⟨k, hk, e⟩] at h; cases h
theorem rch_cl {n : Nat} {T : TT} (hT : Sys n T) {l s t : Nat} (h : T l s = some t) (hs : (rch T (n - 1)).testBit s = true) : (rch T (n - 1)).testBit t = true := by
  have hn := hT.2.1
  obtain ⟨h1, h2, h3⟩ := hT.2.2 l s t h
  obtain ⟨k, hk, e, -, he⟩ := rch_end hT
  rw [he (n - 1) (by omega)] at hs ⊢
  rw [← e]
  show (rch T k ||| nxt T (rch T k)).testBit t = true
  rw [Nat.testBit_or, Bool.or_eq_true]
  refine Or.inr ?_
  unfold nxt
  rw [mask_bit, decide_eq_true (show t < 12 by omega), Bool.true_and, anyB_iff]
  refine ⟨l, h1, anyB_iff.mpr ⟨s, by omega, ?_⟩⟩
  rw [h, hs]; simp
theorem rch_ind {T : TT} (P : Nat → Prop) (h0 : P 0) (hs : ∀ l s t, T l s = some t → P s → P t) : ∀ k t, (rch T k).testBit t = true → P t
  | 0, t, h => by
    have h : (2 ^ 0).testBit t = true := h
    rw [Nat.testBit_two_pow] at h
    rw [← of_decide_eq_true h]; exact h0
  | k + 1, t, h => by
    have h : (rch T k ||| nxt T (rch T k)).testBit t = true := h
    rw [Nat.testBit_or, Bool.or_eq_true] at h
    rcases h with h | h
    · exact rch_ind P h0 hs k t h
    · unfold nxt at h
      rw [mask_bit, Bool.and_eq_true] at h
      obtain ⟨l, -, h⟩ := anyB_iff.mp h.2
      obtain ⟨s, -, h⟩ := anyB_iff.mp h
      rw [Bool.and_eq_true] at h
      exact hs l s t (by simpa using h.1) (rch_ind P h0 hs k s h.2)
theorem rch0 (T : TT) : ∀ k, (rch T k).testBit 0 = true
  | 0 => by show (1 : Nat).testBit 0 = true; decide
  | k + 1 => by
    show (rch T k ||| nxt T (rch T k)).testBit 0 = true
    rw [Nat.testBit_or, rch0 T k]; rfl
theorem rch_lt_n {n : Nat} {T : TT} (hT : Sys n T) {k s : Nat} (h : (rch T k).testBit s = true) : s < n := by
  rcases Nat.lt_or_ge s n with g | g
  · exact g
  · rw [bit_hi (rch_n hT k) g] at h; cases h
theorem way_step {n : Nat} {T : TT} (hT : Sys n T) {l s t a : Nat} (h : T l s = some t) (h3 : wayS T l a ≠ 3) :
    (wayS T l a = 0 ∧ a.testBit s = a.testBit t) ∨ (wayS T l a = 1 ∧ a.testBit s = false ∧ a.testBit t = true) ∨ (wayS T l a = 2 ∧ a.testBit s = true ∧ a.testBit t = false) := by
  have hs : s < 12 := by
    have := (hT.2.2 l s t h).2.1
    have := hT.2.1
    omega
  unfold wayS at h3 ⊢
  by_cases c0 : allS T l (fun s t => a.testBit s == a.testBit t) = true
  · refine Or.inl ⟨if_pos c0, ?_⟩
    have := allS_iff.mp c0 s hs t h
    simpa using this
  · rw [if_neg c0] at h3 ⊢
    by_cases c1 : allS T l (fun s t => !a.testBit s && a.testBit t) = true
    · refine Or.inr (Or.inl ⟨if_pos c1, ?_⟩)
      have := allS_iff.mp c1 s hs t h
      simpa using this
    · rw [if_neg c1] at h3 ⊢
      by_cases c2 : allS T l (fun s t => a.testBit s && !a.testBit t) = true
      · refine Or.inr (Or.inr ⟨if_pos c2, ?_⟩)
        have := allS_iff.mp c2 s hs t h
        simpa using this
      · rw [if_neg c2] at h3
        exact absurd rfl h3
theorem pg_way {n : Nat} {T : TT} {p l : Nat} (hp : p < (PL n T).length) (hl : l < 6) : wayS T l (pg n T p) ≠ 3 := by
  have h : pg n T p ∈ pT n T (RgL n T).length := List.mem_of_mem_take (getD_mem hp)
  obtain ⟨j, h1, -, h3⟩ := pT_mem.mp h
  have h4 := RgL_mem.mp (rg_mem h1)
  rw [h3] at h4
  unfold isReg at h4
  rw [Bool.and_eq_true] at h4
  have h5 : mixS T (pg n T p) = none := by simpa using h4.2
  intro q
  have := fnd_none h5 l hl
  rw [q] at this
  cases this
/-- firing a label that the state has leads to the marking of the step's end -/
theorem beh_step {n : Nat} {T : TT} (hT : Sys n T) {l s t : Nat} (h : T l s = some t) : behS n T l (withS n T s) = withS n T t := by
  have hl := (hT.2.2 l s t h).1
  refine Nat.eq_of_testBit_eq fun p => ?_
  unfold behS
  rw [Nat.testBit_or, ndf_bit]
  unfold withS crossS
  rw [mask_bit, mask_bit, mask_bit, mask_bit]
  by_cases hp : p < (PL n T).length
  · rw [decide_eq_true hp]
    simp only [Bool.true_and]
    rcases way_step hT h (pg_way hp hl) with ⟨w, e⟩ | ⟨w, e1, e2⟩ | ⟨w, e1, e2⟩
    · rw [w, e]; simp
    · rw [w, e1, e2]; rfl
    · rw [w, e1, e2]; rfl
  · rw [decide_eq_false hp]; simp
theorem faith_at {n : Nat} {T : TT} (hF : faithS n T = true) {s : Nat} (hs : s < n) (hr : (rch T (n - 1)).testBit s = true) : (∀ l, l < 6 → canS n T l (withS n T s) = hasS T l s) ∧ ∀ o, o < s → (rch T (n - 1)).testBit o = true → withS n T o ≠ withS n T s := by
  unfold faithS at hF
  rw [Bool.not_eq_true'] at hF
  have h := any_no hF hs
  rw [hr, Bool.true_and, Bool.or_eq_false_iff] at h
  refine ⟨fun l hl => ?_, fun o ho hro e => ?_⟩
  · have := any_no h.1 hl
    simpa using this
  · have := any_no h.2 ho
    rw [hro, e] at this
    simp at this
theorem nodup_le : ∀ (L M : List Nat), L.Nodup → (∀ a, a ∈ L → a ∈ M) → L.length ≤ M.length
  | [], _, _, _ => Nat.zero_le _
  | a :: L, M, h, hm => by
    rw [List.nodup_cons] at h
    have ha := hm a List.mem_cons_self
    have h1 := nodup_le L (M.erase a) h.2 (fun b hb => by
      have hne : b ≠ a := fun e => h.1 (e ▸ hb)
      exact (List.mem_erase_of_ne hne).mpr (hm b (List.mem_cons_of_mem _ hb)))
    rw [List.length_erase_of_mem ha] at h1
    have : 0 < M.length := List.length_pos_of_mem ha
    simp only [List.length_cons]
    omega
/-- the reached states -/
def rL (n : Nat) (T : TT) : List Nat := (List.range 12).filter (rch T (n - 1)).testBit
theorem rL_mem {n : Nat} {T : TT} {s : Nat} : s ∈ rL n T ↔ (rch T (n - 1)).testBit s = true := by
  unfold rL
  rw [List.mem_filter, List.mem_range]
  refine ⟨fun h => h.2, fun h => ⟨?_, h⟩⟩
  rcases Nat.lt_or_ge s 12 with g | g
  · exact g
  · rw [bit_hi (rch_lt T (n - 1)) g] at h; cases h
theorem nodup_one (m : Nat) : [m].Nodup := by simp
theorem push_mem {L : List Nat} {m a : Nat} (h : a ∈ push L m) : a ∈ L ∨ a = m := by
  unfold push at h
  split at h
  · split at h
    · exact Or.inl h
    · rcases List.mem_append.mp h with h | h
      · exact Or.inl h
      · exact Or.inr (List.mem_singleton.mp h)
  · exact Or.inl h
theorem push_nodup {L : List Nat} {m : Nat} (h : L.Nodup) : (push L m).Nodup := by
  unfold push
  split
  · split
    · exact h
    · next c =>
      rw [List.nodup_append]
      refine ⟨h, nodup_one m, fun a ha b hb e => ?_⟩
      rw [List.mem_singleton.mp hb] at e
      exact c (List.contains_iff_mem.mpr (e ▸ ha))
  · exact h
theorem push_in {L : List Nat} {m : Nat} (h : L.length < 200) : m ∈ push L m := by
  unfold push
  rw [if_pos h]
  split
  · next c => exact List.contains_iff_mem.mp c
  · exact List.mem_append_right _ List.mem_cons_self
theorem push_sub {L : List Nat} {m a : Nat} (h : a ∈ L) : a ∈ push L m := by
  obtain ⟨r, hr⟩ := push_pre L m
  rw [hr]; exact List.mem_append_left _ h
theorem exL_nodup {n : Nat} {T : TT} {L : List Nat} {k : Nat} (h : L.Nodup) : ∀ l, (exL n T L k l).Nodup
  | 0 => h
  | l + 1 => by
    rw [exL]
    split
    · exact push_nodup (exL_nodup h l)
    · exact exL_nodup h l
theorem mkS_nodup {n : Nat} {T : TT} : ∀ k, (mkS n T k).Nodup
  | 0 => nodup_one _
  | k + 1 => by
    rw [mkS]
    split
    · exact exL_nodup (mkS_nodup k) 6
    · exact mkS_nodup k
def isW (n : Nat) (T : TT) (m : Nat) : Prop := ∃ s, (rch T (n - 1)).testBit s = true ∧ m = withS n T s
theorem exL_W {n : Nat} {T : TT} (hT : Sys n T) (hF : faithS n T = true) {L : List Nat} {k : Nat} (hk : k < L.length) (h : ∀ m, m ∈ L → isW n T m) : ∀ l, l ≤ 6 → ∀ m, m ∈ exL n T L k l → isW n T m
  | 0, _ => h
  | l + 1, hl => by
    intro m hm
    rw [exL] at hm
    split at hm
    · next c =>
      rcases push_mem hm with hm | hm
      · exact exL_W hT hF hk h l (by omega) m hm
      · rw [exL_get hk] at c hm
        obtain ⟨s, hs, e⟩ := h _ (getD_mem hk)
        rw [e] at c hm
        have hsn := rch_lt_n hT hs
        rw [(faith_at hF hsn hs).1 l (by omega)] at c
        cases e2 : T l s with
        | none => rw [hasS_f.mpr e2] at c; cases c
        | some t =>
          rw [beh_step hT e2] at hm
          exact ⟨t, rch_cl hT e2 hs, hm⟩
    · exact exL_W hT hF hk h l (by omega) m hm
theorem mkS_W {n : Nat} {T : TT} (hT : Sys n T) (hF : faithS n T = true) : ∀ k m, m ∈ mkS n T k → isW n T m
  | 0, m, h => ⟨0, rch0 T _, List.mem_singleton.mp h⟩
  | k + 1, m, h => by
    rw [mkS] at h
    split at h
    · next c => exact exL_W hT hF c (mkS_W hT hF k) 6 (Nat.le_refl 6) m h
    · exact mkS_W hT hF k m h
theorem W_len {n : Nat} {T : TT} {L : List Nat} (h : L.Nodup) (hW : ∀ m, m ∈ L → isW n T m) : L.length ≤ (rL n T).length := by
  have := nodup_le L ((rL n T).map (withS n T)) h (fun m hm => by
    obtain ⟨s, hs, e⟩ := hW m hm
    exact List.mem_map.mpr ⟨s, rL_mem.mpr hs, e.symm⟩)
  rw [List.length_map] at this
  exact this
theorem rL_len (n : Nat) (T : TT) : (rL n T).length ≤ 12 := Nat.le_trans (List.length_filter_le _ _) (by simp)
theorem mkS_12 {n : Nat} {T : TT} (hT : Sys n T) (hF : faithS n T = true) (k : Nat) : (mkS n T k).length ≤ 12 := Nat.le_trans (W_len (mkS_nodup k) (mkS_W hT hF k)) (rL_len n T)
theorem mkS_pre {n : Nat} {T : TT} : ∀ j k, k ≤ j → ∃ r, mkS n T j = mkS n T k ++ r
  | 0, k, h => ⟨[], by rw [show k = 0 by omega]; simp⟩
  | j + 1, k, h => by
    by_cases c : k = j + 1
    · exact ⟨[], by rw [c]; simp⟩
    · obtain ⟨r, hr⟩ := mkS_pre j k (by omega)
      rw [mkS]
      split
      · obtain ⟨r2, hr2⟩ := exL_pre (n := n) (T := T) (L := mkS n T j) (k := j) 6
        exact ⟨r ++ r2, by rw [hr2, hr, List.append_assoc]⟩
      · exact ⟨r, hr⟩
theorem mkS_stop {n : Nat} {T : TT} {k : Nat} (h : (mkS n T k).length ≤ k) : ∀ j, k ≤ j → mkS n T j = mkS n T k
  | 0, hj => by rw [show k = 0 by omega]
  | j + 1, hj => by
    by_cases c : k = j + 1
    · rw [c]
    · have ih := mkS_stop h j (by omega)
      rw [mkS, ih, if_neg (by omega)]
theorem exL_len {n : Nat} {T : TT} {L : List Nat} {k l : Nat} (hl : l ≤ 6) : (exL n T L k l).length ≤ (exL n T L k 6).length := by
  have : ∀ d, (exL n T L k l).length ≤ (exL n T L k (l + d)).length := fun d => by
    induction d with
    | zero => exact Nat.le_refl _
    | succ d ih =>
      rw [← Nat.add_assoc, exL]
      split
      · obtain ⟨r, hr⟩ := push_pre (exL n T L k (l + d)) (behS n T (l + d) ((exL n T L k (l + d)).getD k 0))
        rw [hr, List.length_append]; omega
      · exact ih
  have := this (6 - l)
  rwa [show l + (6 - l) = 6 by omega] at this
theorem exL_mono {n : Nat} {T : TT} {L : List Nat} {k l a : Nat} (h : a ∈ exL n T L k l) : ∀ d, a ∈ exL n T L k (l + d)
  | 0 => h
  | d + 1 => by
    rw [← Nat.add_assoc, exL]
    split
    · exact push_sub (exL_mono h d)
    · exact exL_mono h d
theorem ML_cl {n : Nat} {T : TT} (hT : Sys n T) (hF : faithS n T = true) {l m : Nat} (hl : l < 6) (hm : m ∈ ML n T) (hc : canS n T l m = true) : behS n T l m ∈ ML n T := by
  obtain ⟨i, hi, e⟩ := List.getElem_of_mem hm
  have h12 : (ML n T).length ≤ 12 := mkS_12 hT hF 200
  have hlen : i < (mkS n T i).length := by
    rcases Nat.lt_or_ge i (mkS n T i).length with g | g
    · exact g
    · exfalso
      have := mkS_stop (n := n) (T := T) g 200 (by omega)
      unfold ML at hi
      rw [this] at hi
      omega
  obtain ⟨r, hr⟩ := mkS_pre (n := n) (T := T) 200 i (by omega)
  have e2 : (mkS n T i).getD i 0 = m := by
    have h1 : (ML n T).getD i 0 = m := by rw [List.getD_eq_getElem?_getD, List.getElem?_eq_getElem hi, e]; rfl
    unfold ML at h1
    rw [hr, gd_l hlen] at h1
    exact h1
  have e3 : mkS n T (i + 1) = exL n T (mkS n T i) i 6 := by rw [mkS, if_pos hlen]
  obtain ⟨r2, hr2⟩ := mkS_pre (n := n) (T := T) 200 (i + 1) (by omega)
  show behS n T l m ∈ mkS n T 200
  rw [hr2]
  refine List.mem_append_left _ ?_
  rw [e3]
  have h6 : (exL n T (mkS n T i) i 6).length ≤ 12 := by rw [← e3]; exact mkS_12 hT hF (i + 1)
  have := exL_len (n := n) (T := T) (L := mkS n T i) (k := i) (l := l) (by omega)
  have h7 : behS n T l m ∈ exL n T (mkS n T i) i (l + 1) := by
    rw [exL, exL_get hlen, e2, if_pos hc]
    exact push_in (by omega)
  have := exL_mono h7 (6 - (l + 1))
  rwa [show l + 1 + (6 - (l + 1)) = 6 by omega] at this
theorem ML_W {n : Nat} {T : TT} (hT : Sys n T) (hF : faithS n T = true) {s : Nat} (hs : (rch T (n - 1)).testBit s = true) : withS n T s ∈ ML n T := by
  have h0 : withS n T 0 ∈ ML n T := by
    obtain ⟨r, hr⟩ := mkS_pre (n := n) (T := T) 200 0 (by omega)
    show _ ∈ mkS n T 200
    rw [hr]
    exact List.mem_append_left _ List.mem_cons_self
  have := rch_ind (T := T) (fun t => (rch T (n - 1)).testBit t = true ∧ withS n T t ∈ ML n T) ⟨rch0 T _, h0⟩ (fun l s t e hP => by
    have hl := (hT.2.2 l s t e).1
    refine ⟨rch_cl hT e hP.1, ?_⟩
    rw [← beh_step hT e]
    refine ML_cl hT hF hl hP.2 ?_
    rw [(faith_at hF (rch_lt_n hT hP.1) hP.1).1 l hl]
    exact hasS_t.mpr (fun q => by rw [q] at e; cases e)) (n - 1) s hs
  exact this.2
theorem ML_len {n : Nat} {T : TT} (hT : Sys n T) (hF : faithS n T = true) : (ML n T).length = pc (rch T (n - 1)) := by
  have h1 : (ML n T).length ≤ (rL n T).length := W_len (mkS_nodup 200) (mkS_W hT hF 200)
  have h2 : ((rL n T).map (withS n T)).Nodup := by
    unfold List.Nodup
    rw [List.pairwise_map]
    have h3 : (rL n T).Pairwise (· < ·) := List.Pairwise.filter _ List.pairwise_lt_range
    refine List.Pairwise.imp_of_mem (fun {a b} ha hb hab => ?_) h3
    exact (faith_at hF (rch_lt_n hT (rL_mem.mp hb)) (rL_mem.mp hb)).2 a hab (rL_mem.mp ha)
  have h4 := nodup_le _ (ML n T) h2 (fun m hm => by
    obtain ⟨s, hs, rfl⟩ := List.mem_map.mp hm
    exact ML_W hT hF (rL_mem.mp hs))
  rw [List.length_map] at h4
  have h5 : (rL n T).length = pc (rch T (n - 1)) := rfl
  omega

/-- no reached state below s has the marking of a reached one before it -/
def NoD (n : Nat) (T : TT) (s : Nat) : Prop := ∀ s', s' < s → (rch T (n - 1)).testBit s' = true → ∀ o, o < s' → (rch T (n - 1)).testBit o = true → withS n T o ≠ withS n T s'
theorem faith_yes {n : Nat} {T : TT} (h1 : ∀ s, (rch T (n - 1)).testBit s = true → ∀ l, l < 6 → canS n T l (withS n T s) = hasS T l s) (h2 : NoD n T n) : faithS n T = true := by
  unfold faithS
  rw [Bool.not_eq_true']
  refine anyB_false fun s hs => ?_
  cases e : (rch T (n - 1)).testBit s with
  | false => rfl
  | true =>
    rw [Bool.true_and, Bool.or_eq_false_iff]
    refine ⟨anyB_false fun l hl => by rw [h1 s e l hl]; simp, anyB_false fun o ho => ?_⟩
    cases e2 : (rch T (n - 1)).testBit o with
    | false => rfl
    | true =>
      rw [Bool.true_and]
      have := h2 s hs e o ho e2
      simpa using this
