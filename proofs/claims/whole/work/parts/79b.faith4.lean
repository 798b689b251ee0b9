/-! 79b: the end of isFaithful -/
def Pf (τ : SX) (n : Nat) (T : TT) (o : Option (Int32 × SX)) : Prop := ∃ σ', o = some (b2i (faithS n T), σ') ∧ K5 τ σ'
/-- no reached state below s has the marking of a reached one before it -/
def NoD (n : Nat) (T : TT) (s : Nat) : Prop := ∀ s', s' < s → (rch T (n - 1)).testBit s' = true → ∀ o, o < s' → (rch T (n - 1)).testBit o = true → withS n T o ≠ withS n T s'
theorem faith_yes {n : Nat} {T : TT} (h1 : ∀ s, (rch T (n - 1)).testBit s = true → ∀ l, l < 6 → canS n T l (withS n T s) = hasS T l s) (h2 : NoD n T n) : faithS n T = true := by
  unfold faithS
  rw [Bool.not_eq_true']
  refine anyB_false fun s hs => ?_
  cases e : (rch T (n - 1)).testBit s with
  | false => rfl
  | true =>
    rw [Bool.true_and, Bool.or_eq_false_iff]
    refine ⟨anyB_false fun l hl => by rw [h1 s e l hl]; simp, anyB_false fun o ho => ?_⟩
    cases e2 : (rch T (n - 1)).testBit o with
    | false => rfl
    | true =>
      rw [Bool.true_and]
      have := h2 s hs e o ho e2
      simpa using this
theorem faith_dup {n : Nat} {T : TT} (hT : Sys n T) {s o : Nat} (hs : (rch T (n - 1)).testBit s = true) (ho : o < s) (hr : (rch T (n - 1)).testBit o = true) (e : withS n T o = withS n T s) : faithS n T = false := by
  cases c : faithS n T with
  | false => rfl
  | true => exact absurd e ((faith_at c (rch_lt_n hT hs) hs).2 o ho hr)
theorem idx_inj2 {L : List Nat} {a b : Nat} (ha : idxO L a ≠ none) (h : idxO L a = idxO L b) : a = b := by
  cases e : idxO L a with
  | none => exact absurd e ha
  | some j => rw [← (idx_some e).2, (idx_some (h ▸ e)).2]
def cR (n : Nat) (T : TT) (s : Nat) : Nat := sumN (fun k => b2n ((rch T (n - 1)).testBit k)) s
theorem cR_le (n : Nat) (T : TT) (s : Nat) : cR n T s ≤ s := by
  induction s with
  | zero => exact Nat.le_refl 0
  | succ s ih =>
    have : b2n ((rch T (n - 1)).testBit s) ≤ 1 := by cases (rch T (n - 1)).testBit s <;> decide
    show cR n T s + b2n ((rch T (n - 1)).testBit s) ≤ s + 1
    omega
def F243 (τ : SX) (n : Nat) (T : TT) (σ : SX) (s : Nat) (v : Int32) (c : Int32) : Prop := (v = 1 ∧ c = nI (cR n T s) ∧ NoD n T s) ∨ Lost τ n T v σ
theorem F_275 {τ : SX} {n : Nat} {T : TT} {m s : Nat} {σ : SX} (hT : Sys n T) (h : MI τ n T (some m)) (hI : FI τ n T (rch T (n - 1)) σ) (hs : s < n) (hr : (rch T (n - 1)).testBit s = true) {K320 : Int32 → Int32 → Option (Int32 × SX)} {v10 : Int32}
    (hk : ∀ v, (v = 1 ∧ ∀ o, o < s → (rch T (n - 1)).testBit o = true → withS n T o ≠ withS n T s) ∨ Lost τ n T v σ → Pf τ n T (K320 v v10)) : Pf τ n T (loopF FU (bd_X4_isFaithful_275 (nI (rch T (n - 1))) σ (nI s) K320 v10) (fun _ _ => none) 1 0) := by
  have hn := hT.2.1
  have hRl := rch_lt T (n - 1)
  refine loop_rel (body := bd_X4_isFaithful_275 (nI (rch T (n - 1))) σ (nI s) K320 v10) (bot := fun _ _ => none) (fun o (v : Int32) g => g v (nI o)) s (fun o v => (v = 1 ∧ ∀ q, q < o → (rch T (n - 1)).testBit q = true → withS n T q ≠ withS n T s) ∨ Lost τ n T v σ) (Pf τ n T) ?_ ?_ FU 0 1 (Nat.zero_le _) (by unfold FU; omega) (Or.inl ⟨rfl, fun q hq => by omega⟩)
  · intro rec o v ho hv hk2
    have keep : ∀ v, (v = 1 ∧ ∀ q, q < o + 1 → (rch T (n - 1)).testBit q = true → withS n T q ≠ withS n T s) ∨ Lost τ n T v σ → Pf τ n T (rec v (nI (o + 1))) := fun v hv => hk2 v hv
    rw [bd_X4_isFaithful_275]
    simp only [letb]
    rw [if_neg (nI_ge ho (by omega)), nI_1]
    rcases hv with ⟨rfl, hv⟩ | hL
    · rw [if_neg (show ¬ (1 : Int32) = 0 by decide), M_has (by omega) (by omega), Option.bind_some]
      cases c : (rch T (n - 1)).testBit o with
      | false =>
        rw [if_pos b2iF]
        refine keep 1 (Or.inl ⟨rfl, fun q hq hqr => ?_⟩)
        by_cases e : q = o
        · subst e; rw [c] at hqr; cases hqr
        · exact hv q (by omega) hqr
      | true =>
        rw [if_neg b2iT, ag_nI (by omega) (by decide), Option.bind_some, ag_nI (by omega) (by decide), Option.bind_some, hI.2.2.2.1 o (by omega), hI.2.2.2.1 s (by omega)]
        unfold gv
        rw [if_pos c, if_pos hr]
        have hlen : (ML n T).length ≤ 200 := (mkS_ok (n := n) (T := T) 200).1
        have enc_inj : enc (idxO (ML n T) (withS n T o)) = enc (idxO (ML n T) (withS n T s)) ↔ withS n T o = withS n T s := by
          constructor
          · intro e
            cases e1 : idxO (ML n T) (withS n T o) with
            | none => exact absurd e1 (hI.2.2.2.2 o c)
            | some i =>
              cases e2 : idxO (ML n T) (withS n T s) with
              | none => exact absurd e2 (hI.2.2.2.2 s hr)
              | some j =>
                rw [e1, e2] at e
                have h1 := (idx_some e1).1
                have h2 := (idx_some e2).1
                have : i = j := Classical.byContradiction fun q => nI_ne (by omega) (by omega) q e
                subst this
                exact idx_inj2 (by rw [e1]; exact fun q => by cases q) (e1.trans e2.symm)
          · intro e; rw [e]
        by_cases d : withS n T o = withS n T s
        · rw [if_pos (enc_inj.mpr d)]
          exact keep 0 (Or.inr ⟨rfl, faith_dup hT hr ho c d, hI.1⟩)
        · rw [if_neg (fun q => d (enc_inj.mp q))]
          refine keep 1 (Or.inl ⟨rfl, fun q hq hqr => ?_⟩)
          by_cases e : q = o
          · subst e; exact d
          · exact hv q (by omega) hqr
    · obtain ⟨rfl, h2, h3⟩ := hL
      first
      | rw [if_pos trivial]
      | rw [if_pos (show (0 : Int32) = 0 from rfl)]
      exact keep 0 (Or.inr ⟨rfl, h2, h3⟩)
  · intro rec v hv
    rw [bd_X4_isFaithful_275, if_pos (nI_le (Nat.le_refl s) (by omega))]
    exact hk v hv
theorem F_243 {τ : SX} {n : Nat} {T : TT} {m : Nat} (hT : Sys n T) (h : MI τ n T (some m)) (X : Nat) (v : Int32) (σ : SX) (hF : Fin τ n T X v σ) : Pf τ n T (loopF FU (bd_X4_isFaithful_243 (nI X) σ) (fun _ _ _ => none) v 0 0) := by
  have hn := hT.2.1
  have hst : σ.1 1 = nI n := by
    rcases hF with ⟨-, hI, -⟩ | hL
    · rw [hI.1.1]; exact h.1.1
    · rw [hL.2.2.1]; exact h.1.1
  have lost : ∀ (rec : Int32 → Int32 → Int32 → Option (Int32 × SX)) (c : Int32) (s : Nat), faithS n T = false → K5 τ σ → Pf τ n T (bd_X4_isFaithful_243 (nI X) σ rec 0 c (nI s)) := fun rec c s h1 h2 => by
    have z : Pf τ n T (some (0, σ)) := ⟨σ, by rw [h1]; rfl, h2⟩
    unfold bd_X4_isFaithful_243
    simp only [letb]
    split
    · first
      | (rw [if_pos trivial]; exact z)
      | (rw [if_pos (show (0 : Int32) = 0 from rfl)]; exact z)
      | exact z
    · first
      | (rw [if_pos trivial, if_pos trivial]; exact z)
      | (rw [if_pos trivial]; exact z)
      | (rw [if_pos (show (0 : Int32) = 0 from rfl)]; exact z)
      | exact z
  rcases hF with ⟨rfl, hI, rfl, hO⟩ | hL
  · have hRl := rch_lt T (n - 1)
    refine loop_rel (body := bd_X4_isFaithful_243 (nI (rch T (n - 1))) σ) (bot := fun _ _ _ => none) (fun s (x : Int32 × Int32) g => g x.1 x.2 (nI s)) n (fun s x => F243 τ n T σ s x.1 x.2) (Pf τ n T) ?_ ?_ FU 0 (1, 0) (Nat.zero_le _) (by unfold FU; omega) (Or.inl ⟨rfl, rfl, fun s' hs' => by omega⟩)
    · intro rec s x hs hx hk
      obtain ⟨v, c⟩ := x
      rcases hx with ⟨h1, h2, hN⟩ | ⟨h1, h2, h3⟩
      · have h1 : v = 1 := h1
        have h2 : c = nI (cR n T s) := h2
        subst h1
        subst h2
        show Pf τ n T (bd_X4_isFaithful_243 (nI (rch T (n - 1))) σ rec 1 (nI (cR n T s)) (nI s))
        rw [bd_X4_isFaithful_243]
        simp only [letb]
        rw [hst, if_neg (nI_ge hs (by omega)), if_neg (show ¬ (1 : Int32) = 0 by decide), M_has (by omega) (by omega), Option.bind_some]
        cases c : (rch T (n - 1)).testBit s with
        | false =>
          rw [if_neg (show ¬ ¬ b2i false = 0 from fun q => q rfl), nI_1]
          refine hk (1, nI (cR n T s)) (Or.inl ⟨rfl, ?_, fun s' g1 g2 => ?_⟩)
          · show nI (cR n T s) = nI (cR n T s + b2n ((rch T (n - 1)).testBit s))
            rw [c]; rfl
          · by_cases e : s' = s
            · subst e; rw [c] at g2; cases g2
            · exact hN s' (by omega) g2
        | true =>
          rw [if_pos (show ¬ b2i true = 0 by decide), nI_1, nI_1]
          refine F_275 hT h hI hs c (fun v hv => ?_)
          refine hk (v, nI (cR n T s + 1)) ?_
          rcases hv with ⟨rfl, hv⟩ | hL
          · refine Or.inl ⟨rfl, ?_, fun s' h1 h2 => ?_⟩
            · show nI (cR n T s + 1) = nI (cR n T s + b2n ((rch T (n - 1)).testBit s))
              rw [c]; rfl
            · by_cases e : s' = s
              · subst e; exact hv
              · exact hN s' (by omega) h2
          · exact Or.inr hL
      · have h1 : v = 0 := h1
        subst h1
        exact lost rec c s h2 h3
    · intro rec x hx
      obtain ⟨v, c⟩ := x
      rcases hx with ⟨h1, h2, hN⟩ | ⟨h1, h2, h3⟩
      · have h1 : v = 1 := h1
        have h2 : c = nI (cR n T n) := h2
        subst h1
        subst h2
        show Pf τ n T (bd_X4_isFaithful_243 (nI (rch T (n - 1))) σ rec 1 (nI (cR n T n)) (nI n))
        have hF := faith_yes hO hN
        have hlen := ML_len hT hF
        have hc : pc (rch T (n - 1)) = cR n T n := by
          rw [pc_sum]
          unfold cR
          rw [sumN_cut (N := 12) hn (fun k hk => by
            cases e : (rch T (n - 1)).testBit k with
            | false => rfl
            | true => have := rch_lt_n hT e; omega)]
        have hM := h.keep5 hI.1
        rw [bd_X4_isFaithful_243]
        simp only [letb]
        rw [hst, if_pos (nI_le (Nat.le_refl n) (by omega)), if_neg (show ¬ (1 : Int32) = 0 by decide), hM.2.2.2.2.1.1, hlen, hc, if_neg (show ¬ ¬ nI (cR n T n) = nI (cR n T n) from fun q => q rfl)]
        exact ⟨σ, by rw [hF]; rfl, hI.1⟩
      · have h1 : v = 0 := h1
        subst h1
        exact lost rec c n h2 h3
  · obtain ⟨rfl, h2, h3⟩ := hL
    exact lost _ 0 0 h2 h3
theorem ML_0 (n : Nat) (T : TT) : idxO (ML n T) (withS n T 0) = some 0 := by
  obtain ⟨r, hr⟩ := mkS_pre (n := n) (T := T) 200 0 (by omega)
  have e : ML n T = withS n T 0 :: r := hr
  cases c : idxO (ML n T) (withS n T 0) with
  | none =>
    have := idx_mem.mp c
    rw [Bool.eq_false_iff, ne_eq, List.contains_iff_mem, e] at this
    exact absurd List.mem_cons_self this
  | some j =>
    obtain ⟨h1, h2, h3⟩ := fnd_some c
    by_cases d : j = 0
    · rw [d]
    · have := h3 0 (by omega)
      rw [e] at this
      simp at this
theorem F_45e {τ : SX} {n : Nat} {T : TT} {m X B : Nat} {x2 x3 v : Int32} {σ : SX} (hT : Sys n T) (h : MI τ n T (some m)) (P : Option (Int32 × SX) → Prop) (e2 : x2 = nI X) (e3 : x3 = nI B)
    (hk : ∀ X v σ, Fin τ n T X v σ → P (loopF FU (bd_X4_isFaithful_243 (nI X) σ) (fun _ _ _ => none) v 0 0)) (hx : F45 τ n T 0 (X, B, v, σ)) : P (loopF FU bd_X4_isFaithful_45 (fun _ _ _ _ => none) x2 x3 v σ) := by
  subst e2
  subst e3
  exact F_45 hT h P hk (X, B, v, σ) hx
theorem M_fA1 {τ σ : SX} (hI : K5 τ σ) (hb : ∀ s, s < 12 → σ.2 5 s = -1) (rec : Int32 → SX → Option (Int32 × SX)) (P : Option (Int32 × SX) → Prop) (hk : P (loopF FU bd_X4_isFaithful_45 (fun _ _ _ _ => none) 1 0 1 (sa σ 5 0 0))) : P (bd_X4_isFaithful_18 rec (nI 12) σ) := by
  have e : as_ σ 5 12 0 0 = some (sa σ 5 0 0) := as_nI (i := 0) (by decide) (by decide)
  rw [bd_X4_isFaithful_18, if_pos (show (12 : Int32) ≤ nI 12 from nI_le (Nat.le_refl 12) (by decide)), e]
  exact hk
theorem M_fA2 {σ : SX} {i : Nat} (hi : i < 12) (rec : Int32 → SX → Option (Int32 × SX)) (P : Option (Int32 × SX) → Prop) (hk : P (rec (nI (i + 1)) (sa σ 5 i (-1)))) : P (bd_X4_isFaithful_18 rec (nI i) σ) := by
  rw [bd_X4_isFaithful_18, if_neg (show ¬ (12 : Int32) ≤ nI i from nI_ge hi (by decide)), as_nI hi (by decide), Option.bind_some]
  simp only [letb]
  rw [nI_1]
  exact hk
theorem M_fA3 {τ : SX} : K5 τ (s5 τ) := ⟨rfl, fun a ha => if_neg ha⟩
theorem M_faithE {τ σ : SX} {n : Nat} {T : TT} {m : Nat} (hT : Sys n T) (h : MI τ n T (some m)) (hI : K5 τ σ) (hb : ∀ s, s < 12 → σ.2 5 s = -1) : F45 τ n T 0 (1, 0, 1, sa σ 5 0 0) := by
  have b1 : ∀ s, (1 : Nat).testBit s = decide (0 = s) := fun s => Nat.testBit_two_pow (n := 0) (m := s)
  refine Or.inl ⟨rfl, ⟨⟨hI.1, fun a ha => (sa2 ha).trans (hI.2 a ha)⟩, fun s hs => ?_, (show (1 : Nat).testBit 0 = true by decide), fun s hs => ?_, fun s hs => ?_⟩, (show (0 : Nat) < 2 ^ 12 by decide), Or.inr (by show 0 + 1 ≤ pc 1; decide), fun s hs => ?_, fun s hs => ?_⟩
  · rw [b1] at hs
    rw [← of_decide_eq_true hs]; exact rch0 T _
  · show (sa σ 5 0 0).2 5 s = enc (gv n T 1 s)
    rw [sa_self]
    unfold gv
    rw [b1]
    by_cases c : s = 0
    · subst c
      rw [if_pos rfl, decide_eq_true rfl, if_pos rfl, ML_0]; rfl
    · rw [if_neg c, decide_eq_false (Ne.symm c), if_neg (by decide)]
      exact hb s hs
  · rw [b1] at hs
    rw [← of_decide_eq_true hs, ML_0]; exact fun q => by cases q
  · rw [Nat.zero_testBit] at hs; cases hs
  · rw [Nat.zero_testBit] at hs; cases hs
theorem M_faith {τ : SX} {n : Nat} {T : TT} {m : Nat} (hT : Sys n T) (h : MI τ n T (some m)) : Pf τ n T (fw_X4_isFaithful (s5 τ)) := by
  unfold fw_X4_isFaithful
  simp only [letb]
  refine loop_rel (body := bd_X4_isFaithful_18) (bot := fun _ _ => none) (fun i (σ : SX) g => g (nI i) σ) 12 (fun i σ => K5 τ σ ∧ ∀ s, s < i → σ.2 5 s = -1) (Pf τ n T) ?_ ?_ FU 0 (s5 τ) (Nat.zero_le _) (by decide) ⟨M_fA3, fun s hs => absurd hs (Nat.not_lt_zero s)⟩
  · intro rec i σ hi hI hk
    refine M_fA2 hi rec (Pf τ n T) (hk _ ⟨⟨hI.1.1, fun a ha => (sa2 ha).trans (hI.1.2 a ha)⟩, fun s hs => ?_⟩)
    rw [sa_self]
    by_cases c : s = i
    · rw [if_pos c]
    · rw [if_neg c]; exact hI.2 s (by omega)
  · intro rec σ hI
    exact M_fA1 hI.1 hI.2 rec (Pf τ n T) (F_45e (X := 1) (B := 0) hT h (Pf τ n T) rfl rfl (F_243 hT h) (M_faithE hT h hI.1 hI.2))
