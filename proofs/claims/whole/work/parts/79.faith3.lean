/-! 79: the reference's isFaithful answers as the class's -/
def K5 (τ σ : SX) : Prop := σ.1 = τ.1 ∧ ∀ a, a ≠ 5 → σ.2 a = τ.2 a
theorem MI.keep5 {τ σ : SX} {n : Nat} {T : TT} {mk : Option Nat} (h : MI τ n T mk) (hk : K5 τ σ) : MI σ n T mk := by
  obtain ⟨⟨a1, a2⟩, b, c⟩ := h
  obtain ⟨k1, k2⟩ := hk
  refine ⟨⟨by rw [k1]; exact a1, by rw [k2 1 (by decide)]; exact a2⟩, ?_, ?_⟩
  · rcases b with b | ⟨b1, b2, b3⟩
    · exact Or.inl (by rw [k1]; exact b)
    · exact Or.inr ⟨by rw [k1]; exact b1, by rw [k1]; exact b2, by rw [k2 2 (by decide)]; exact b3⟩
  · cases mk with
    | none => show σ.1 4 = 0; rw [k1]; exact c
    | some m =>
      obtain ⟨c1, ⟨c2, c3⟩, ⟨c4, c5⟩, c6, c7⟩ := c
      exact ⟨by rw [k1]; exact c1, ⟨by rw [k1]; exact c2, by rw [k2 3 (by decide)]; exact c3⟩, ⟨by rw [k1]; exact c4, by rw [k2 4 (by decide)]; exact c5⟩, by rw [k1]; exact c6, c7⟩
def gv (n : Nat) (T : TT) (X s : Nat) : Option Nat := if X.testBit s then idxO (ML n T) (withS n T s) else none
def FI (τ : SX) (n : Nat) (T : TT) (X : Nat) (σ : SX) : Prop := K5 τ σ ∧ (∀ s, X.testBit s = true → (rch T (n - 1)).testBit s = true) ∧ X.testBit 0 = true ∧ (∀ s, s < 12 → σ.2 5 s = enc (gv n T X s)) ∧ ∀ s, X.testBit s = true → idxO (ML n T) (withS n T s) ≠ none
def OKs (n : Nat) (T : TT) (X s l : Nat) : Prop := canS n T l (withS n T s) = hasS T l s ∧ ∀ t, T l s = some t → X.testBit t = true
theorem OKs.mono {n : Nat} {T : TT} {X X' s l : Nat} (h : OKs n T X s l) (hx : ∀ q, X.testBit q = true → X'.testBit q = true) : OKs n T X' s l := ⟨h.1, fun t e => hx t (h.2 t e)⟩
theorem FI.lt {τ : SX} {n : Nat} {T : TT} {X : Nat} {σ : SX} (hT : Sys n T) (h : FI τ n T X σ) : X < 2 ^ 12 := lt_of_bits fun k hk => by
  cases e : X.testBit k with
  | false => rfl
  | true =>
    have h1 := rch_lt_n hT (h.2.1 k e)
    have h2 := hT.2.1
    omega
def Lost (τ : SX) (n : Nat) (T : TT) (v : Int32) (σ : SX) : Prop := v = 0 ∧ faithS n T = false ∧ K5 τ σ
def F60 (τ : SX) (n : Nat) (T : TT) (X0 s : Nat) (x : Nat × Int32 × SX) : Prop := (x.2.1 = 1 ∧ FI τ n T x.1 x.2.2 ∧ (∀ q, X0.testBit q = true → x.1.testBit q = true) ∧ ∀ s', s' < s → X0.testBit s' = true → ∀ l', l' < 6 → OKs n T x.1 s' l') ∨ Lost τ n T x.2.1 x.2.2
def F77 (τ : SX) (n : Nat) (T : TT) (X0 s l : Nat) (x : Nat × Int32 × SX) : Prop := (x.2.1 = 1 ∧ FI τ n T x.1 x.2.2 ∧ (∀ q, X0.testBit q = true → x.1.testBit q = true) ∧ (∀ s', s' < s → X0.testBit s' = true → ∀ l', l' < 6 → OKs n T x.1 s' l') ∧ ∀ l', l' < l → OKs n T x.1 s l') ∨ Lost τ n T x.2.1 x.2.2
theorem faith_no {n : Nat} {T : TT} {s l : Nat} (hT : Sys n T) (hl : l < 6) (hs : (rch T (n - 1)).testBit s = true) (h : canS n T l (withS n T s) ≠ hasS T l s) : faithS n T = false := by
  cases e : faithS n T with
  | false => rfl
  | true => exact absurd ((faith_at e (rch_lt_n hT hs) hs).1 l hl) h
theorem enc_s {t : Nat} (h : t < 2 ^ 31) : ¬ enc (some t) = -1 := i_neg1 h
theorem idx_some {L : List Nat} {m j : Nat} (h : idxO L m = some j) : j < L.length ∧ L.getD j 0 = m := by
  obtain ⟨h1, h2, -⟩ := fnd_some h
  exact ⟨h1, by simpa using h2⟩
theorem F_step {τ : SX} {n : Nat} {T : TT} {m X0 s l : Nat} (hT : Sys n T) (h : MI τ n T (some m)) (hs : s < n) (hl : l < 6) (h0s : X0.testBit s = true) (h0 : X0 < 2 ^ 12) {X : Nat} {σ : SX} {rec60 rec : Int32 → Int32 → Int32 → SX → Option (Int32 × SX)} (P : Option (Int32 × SX) → Prop)
    (hI : FI τ n T X σ) (hX : ∀ q, X0.testBit q = true → X.testBit q = true) (ho : ∀ s', s' < s → X0.testBit s' = true → ∀ l', l' < 6 → OKs n T X s' l') (hq : ∀ l', l' < l → OKs n T X s l')
    (hk : ∀ x, F77 τ n T X0 s (l + 1) x → P (rec (nI x.1) x.2.1 (nI (l + 1)) x.2.2)) : P (bd_X4_isFaithful_77 (nI X0) rec60 (nI s) rec (nI X) 1 (nI l) σ) := by
  have hn := hT.2.1
  have hXl := hI.lt hT
  have hM := h.keep5 hI.1
  obtain ⟨c1, c2, c3, c4, c5⟩ := hM.2.2
  have hR := hI.2.1 s (hX s h0s)
  have hlen : (ML n T).length ≤ 200 := (mkS_ok (n := n) (T := T) 200).1
  obtain ⟨j, hj⟩ : ∃ j, idxO (ML n T) (withS n T s) = some j := by
    cases e : idxO (ML n T) (withS n T s) with
    | none => exact absurd e (hI.2.2.2.2 s (hX s h0s))
    | some j => exact ⟨j, rfl⟩
  obtain ⟨hj1, hj2⟩ := idx_some hj
  have hg : σ.2 5 s = nI j := by rw [hI.2.2.2.1 s (by omega)]; unfold gv; rw [if_pos (hX s h0s), hj]; rfl
  have hf : σ.2 4 j = nI (withS n T s) := by rw [c3.2 j hj1, hj2]
  have hw := withS_lt n T s
  rw [bd_X4_isFaithful_77]
  simp only [letb]
  rw [if_neg (show ¬ (6 : Int32) ≤ nI l from nI_ge hl (by decide)), M_has (by omega) (by omega), Option.bind_some, h0s, if_neg b2iT, if_neg (show ¬ (1 : Int32) = 0 by decide), M_to hM.1 (by omega) hl, Option.bind_some, ag_nI (by omega) (by decide), Option.bind_some, hg, ag_nI (by omega) (by decide), Option.bind_some, hf, M_behind hT hM.1 c2 hl hw, Option.bind_some]
  unfold behO
  rw [nI_1]
  have lost : ∀ (Y : Nat) (ρ : SX), K5 τ ρ → faithS n T = false → P (rec (nI Y) 0 (nI (l + 1)) ρ) := fun Y ρ h1 h2 => hk (Y, 0, ρ) (Or.inr ⟨rfl, h2, h1⟩)
  cases c : T l s with
  | none =>
    have hh : hasS T l s = false := hasS_f.mpr c
    cases d : canS n T l (withS n T s) with
    | true =>
      have hb := behS_lt (n := n) (T := T) (l := l) hw
      rw [if_neg (show ¬ ¬ enc none = -1 from fun q => q rfl), if_pos (show true = true from rfl), if_pos (show ¬ enc (some (behS n T l (withS n T s))) = -1 from enc_s (by omega)), if_pos (show ¬ (1 : Int32) = 0 by decide), if_pos trivial]
      exact lost X σ hI.1 (faith_no hT hl hR (by rw [d, hh]; decide))
    | false =>
      rw [if_neg (show ¬ ¬ enc none = -1 from fun q => q rfl), if_neg (show ¬ false = true by decide), if_neg (show ¬ ¬ enc none = -1 from fun q => q rfl), if_neg (show ¬ ¬ True from fun q => q trivial), if_neg (show ¬ (1 : Int32) = 0 by decide), if_neg (show ¬ ¬ enc none = -1 from fun q => q rfl)]
      refine hk (X, 1, σ) (Or.inl ⟨rfl, hI, hX, ho, fun l' hl' => ?_⟩)
      by_cases e : l' = l
      · subst e
        exact ⟨by rw [d, hh], fun t ht => by rw [c] at ht; cases ht⟩
      · exact hq l' (by omega)
  | some t =>
    have ht := (hT.2.2 l s t c).2.2
    have hE : ¬ enc (some t) = -1 := enc_s (by omega)
    have hh : hasS T l s = true := hasS_t.mpr (fun q => by rw [q] at c; cases c)
    cases d : canS n T l (withS n T s) with
    | false =>
      rw [if_pos hE, if_neg (show ¬ false = true by decide), if_neg (show ¬ ¬ enc none = -1 from fun q => q rfl), if_pos (show ¬ (0 : Int32) = 1 by decide), if_pos trivial]
      exact lost X σ hI.1 (faith_no hT hl hR (by rw [d, hh]; decide))
    | true =>
      have hwt := withS_lt n T t
      have hRt := rch_cl hT c hR
      rw [if_pos hE, if_pos (show true = true from rfl), beh_step hT c, if_pos (show ¬ enc (some (withS n T t)) = -1 from enc_s (by omega)), if_neg (show ¬ ¬ True from fun q => q trivial), if_neg (show ¬ (1 : Int32) = 0 by decide), if_pos hE]
      rw [show fn_X4_numberOf σ (enc (some (withS n T t))) = some (enc (idxO (ML n T) (withS n T t))) from M_numberOf c3 (mkS_ok 200) hwt, Option.bind_some]
      have hag : ag σ 5 12 (enc (some t)) = some (σ.2 5 t) := ag_nI (by omega) (by decide)
      have has : ∀ v, as_ σ 5 12 (enc (some t)) v = some (sa σ 5 t v) := fun v => as_nI (by omega) (by decide)
      have hsh : nI X ||| 1 <<< (enc (some t) &&& 31) = nI (X ||| 2 ^ t) := by
        show nI X ||| 1 <<< (nI t &&& 31) = _
        rw [i_shl (by omega), i_or (by omega) (Nat.pow_lt_pow_right (by decide) (by omega))]
      have hK : ∀ v, K5 τ (sa σ 5 t v) := fun v => ⟨hI.1.1, fun a ha => (sa2 ha).trans (hI.1.2 a ha)⟩
      rw [hsh, hag]
      simp only [has, Option.bind_some]
      rw [hI.2.2.2.1 t (by omega)]
      cases e : idxO (ML n T) (withS n T t) with
      | none =>
        rw [if_pos (show enc none = -1 from rfl)]
        refine lost _ _ (hK _) ?_
        cases e3 : faithS n T with
        | false => rfl
        | true =>
          have := ML_W hT e3 hRt
          rw [← List.contains_iff_mem, idx_mem.mp e] at this
          cases this
      | some i =>
        have hi := (idx_some e).1
        rw [if_neg (show ¬ enc (some i) = -1 from enc_s (by omega))]
        have fin : P (rec (nI (X ||| 2 ^ t)) 1 (nI (l + 1)) (sa σ 5 t (enc (some i)))) := by
          have hb : ∀ q, (X ||| 2 ^ t).testBit q = (X.testBit q || decide (t = q)) := fun q => by rw [Nat.testBit_or, Nat.testBit_two_pow]
          have hup : ∀ q, X.testBit q = true → (X ||| 2 ^ t).testBit q = true := fun q hq => by rw [hb, hq]; rfl
          refine hk (X ||| 2 ^ t, 1, _) (Or.inl ⟨rfl, ⟨hK _, fun q hq => ?_, hup 0 hI.2.2.1, fun q hq => ?_, fun q hq => ?_⟩, fun q hq => hup q (hX q hq), fun s' h1 h2 l' h3 => (ho s' h1 h2 l' h3).mono hup, fun l' hl' => ?_⟩)
          · rw [hb, Bool.or_eq_true] at hq
            rcases hq with hq | hq
            · exact hI.2.1 q hq
            · rw [← of_decide_eq_true hq]; exact hRt
          · show (sa σ 5 t (enc (some i))).2 5 q = enc (gv n T (X ||| 2 ^ t) q)
            rw [sa_self]
            unfold gv
            rw [hb]
            by_cases e4 : q = t
            · subst e4
              rw [if_pos rfl, decide_eq_true rfl, Bool.or_true, if_pos rfl, e]
            · rw [if_neg e4, decide_eq_false (Ne.symm e4), Bool.or_false]
              exact hI.2.2.2.1 q hq
          · rw [hb, Bool.or_eq_true] at hq
            rcases hq with hq | hq
            · exact hI.2.2.2.2 q hq
            · rw [← of_decide_eq_true hq, e]; exact fun q => by cases q
          · by_cases e5 : l' = l
            · subst e5
              exact ⟨by rw [d, hh], fun u hu => by
                rw [c] at hu; cases hu
                rw [hb, decide_eq_true rfl, Bool.or_true]⟩
            · exact (hq l' (by omega)).mono hup
        unfold gv
        cases e6 : X.testBit t with
        | true =>
          rw [if_pos rfl, e, if_neg (show ¬ enc (some i) = -1 from enc_s (by omega)), if_neg (show ¬ ¬ enc (some i) = enc (some i) from fun q => q rfl)]
          exact fin
        | false =>
          rw [if_neg (show ¬ false = true by decide), if_pos (show enc none = -1 from rfl)]
          exact fin
theorem F_77 {τ : SX} {n : Nat} {T : TT} {m X0 s : Nat} (hT : Sys n T) (h : MI τ n T (some m)) (hs : s < n) (h0 : X0 < 2 ^ 12) {rec60 : Int32 → Int32 → Int32 → SX → Option (Int32 × SX)} (P : Option (Int32 × SX) → Prop)
    (hk : ∀ x, F60 τ n T X0 (s + 1) x → P (rec60 (nI x.1) x.2.1 (nI (s + 1)) x.2.2)) (x : Nat × Int32 × SX) (hx : F60 τ n T X0 s x) : P (loopF FU (bd_X4_isFaithful_77 (nI X0) rec60 (nI s)) (fun _ _ _ _ => none) (nI x.1) x.2.1 0 x.2.2) := by
  have hn := hT.2.1
  refine loop_rel (body := bd_X4_isFaithful_77 (nI X0) rec60 (nI s)) (bot := fun _ _ _ _ => none) (fun l (x : Nat × Int32 × SX) g => g (nI x.1) x.2.1 (nI l) x.2.2) 6 (fun l x => F77 τ n T X0 s l x) P ?_ ?_ FU 0 x (Nat.zero_le _) (by decide) ?_
  · intro rec l x hl hI hk2
    obtain ⟨X, v, σ⟩ := x
    have leave : ∀ σ v, F60 τ n T X0 (s + 1) (X, v, σ) → (fn_X4_has σ (nI X0) (nI s) = some 0 ∨ v = 0) → P (bd_X4_isFaithful_77 (nI X0) rec60 (nI s) rec (nI X) v (nI l) σ) := fun σ v hF hv => by
      rw [bd_X4_isFaithful_77]
      simp only [letb]
      rw [if_neg (show ¬ (6 : Int32) ≤ nI l from nI_ge hl (by decide)), nI_1, M_has (by omega) (by omega), Option.bind_some]
      rcases hv with hv | hv
      · rw [M_has (by omega) (by omega)] at hv
        rw [Option.some.inj hv, if_pos rfl]
        exact hk (X, v, σ) hF
      · subst hv
        cases e : X0.testBit s with
        | false => rw [if_pos b2iF]; exact hk (X, 0, σ) hF
        | true =>
          rw [if_neg b2iT]
          first
          | (rw [if_pos trivial]; exact hk (X, 0, σ) hF)
          | (rw [if_pos (show (0 : Int32) = 0 from rfl)]; exact hk (X, 0, σ) hF)
    rcases hI with ⟨rfl, hI, hX, ho, hq⟩ | ⟨h1, h2, h3⟩
    · by_cases c : X0.testBit s = true
      · exact F_step hT h hs hl c h0 P hI hX ho hq hk2
      · have c : X0.testBit s = false := by simpa using c
        refine leave σ 1 (Or.inl ⟨rfl, hI, hX, fun s' h1 h2 l' h3 => ?_⟩) (Or.inl (by rw [M_has (by omega) (by omega), c]; rfl))
        by_cases e : s' = s
        · subst e; rw [c] at h2; cases h2
        · exact ho s' (by omega) h2 l' h3
    · have h1 : v = 0 := h1
      subst h1
      exact leave σ 0 (Or.inr ⟨rfl, h2, h3⟩) (Or.inr rfl)
  · intro rec x hI
    rw [bd_X4_isFaithful_77]
    simp only [letb]
    rw [if_pos (show (6 : Int32) ≤ nI 6 from nI_le (Nat.le_refl 6) (by decide)), nI_1]
    refine hk x ?_
    rcases hI with ⟨h1, hI, hX, ho, hq⟩ | hL
    · refine Or.inl ⟨h1, hI, hX, fun s' g1 g2 l' g3 => ?_⟩
      by_cases e : s' = s
      · subst e; exact hq l' g3
      · exact ho s' (by omega) g2 l' g3
    · exact Or.inr hL
  · rcases hx with ⟨h1, hI, hX, ho⟩ | hL
    · exact Or.inl ⟨h1, hI, hX, ho, fun l' hl' => by omega⟩
    · exact Or.inr hL
theorem F_60 {τ : SX} {n : Nat} {T : TT} {m X0 : Nat} (hT : Sys n T) (h : MI τ n T (some m)) (h0 : X0 < 2 ^ 12) {rec45 : Int32 → Int32 → Int32 → SX → Option (Int32 × SX)} (P : Option (Int32 × SX) → Prop)
    (hk : ∀ x, F60 τ n T X0 n x → P (rec45 (nI x.1) (nI X0) x.2.1 x.2.2)) (x : Nat × Int32 × SX) (hx : F60 τ n T X0 0 x) : P (loopF FU (bd_X4_isFaithful_60 rec45 (nI X0)) (fun _ _ _ _ => none) (nI x.1) x.2.1 0 x.2.2) := by
  have hn := hT.2.1
  have st : ∀ {s : Nat} {x : Nat × Int32 × SX}, F60 τ n T X0 s x → x.2.2.1 1 = nI n := fun hF => by
    rcases hF with ⟨-, hI, -⟩ | hL
    · rw [hI.1.1]; exact h.1.1
    · rw [hL.2.2.1]; exact h.1.1
  refine loop_rel (body := bd_X4_isFaithful_60 rec45 (nI X0)) (bot := fun _ _ _ _ => none) (fun s (x : Nat × Int32 × SX) g => g (nI x.1) x.2.1 (nI s) x.2.2) n (fun s x => F60 τ n T X0 s x) P ?_ ?_ FU 0 x (Nat.zero_le _) (by unfold FU; omega) hx
  · intro rec s x hs hI hk2
    rw [bd_X4_isFaithful_60]
    simp only [letb]
    rw [st hI, if_neg (nI_ge hs (by omega))]
    by_cases c : x.2.1 = 0
    · rw [if_pos c]
      refine hk x ?_
      rcases hI with ⟨h1, -⟩ | hL
      · rw [c] at h1; exact absurd h1 (by decide)
      · exact Or.inr hL
    · rw [if_neg c]
      exact F_77 hT h hs h0 P hk2 x hI
  · intro rec x hI
    rw [bd_X4_isFaithful_60]
    simp only [letb]
    rw [st hI, if_pos (nI_le (Nat.le_refl n) (by omega))]
    exact hk x hI
def F45 (τ : SX) (n : Nat) (T : TT) (i : Nat) (x : Nat × Nat × Int32 × SX) : Prop := (x.2.2.1 = 1 ∧ FI τ n T x.1 x.2.2.2 ∧ x.2.1 < 2 ^ 12 ∧ (x.1 = x.2.1 ∨ i + 1 ≤ pc x.1) ∧ (∀ s, x.2.1.testBit s = true → x.1.testBit s = true) ∧ ∀ s, x.2.1.testBit s = true → ∀ l, l < 6 → OKs n T x.1 s l) ∨ Lost τ n T x.2.2.1 x.2.2.2
/-- behind the search: all reached states are found, and each label there is matched -/
def Fin (τ : SX) (n : Nat) (T : TT) (X : Nat) (v : Int32) (σ : SX) : Prop := (v = 1 ∧ FI τ n T X σ ∧ X = rch T (n - 1) ∧ ∀ s, (rch T (n - 1)).testBit s = true → ∀ l, l < 6 → canS n T l (withS n T s) = hasS T l s) ∨ Lost τ n T v σ
theorem F_45 {τ : SX} {n : Nat} {T : TT} {m : Nat} (hT : Sys n T) (h : MI τ n T (some m)) (P : Option (Int32 × SX) → Prop)
    (hk : ∀ X v σ, Fin τ n T X v σ → P (loopF FU (bd_X4_isFaithful_243 (nI X) σ) (fun _ _ _ => none) v 0 0)) (x : Nat × Nat × Int32 × SX) (hx : F45 τ n T 0 x) : P (loopF FU bd_X4_isFaithful_45 (fun _ _ _ _ => none) (nI x.1) (nI x.2.1) x.2.2.1 x.2.2.2) := by
  have hn := hT.2.1
  have leave : ∀ (rec : Int32 → Int32 → Int32 → SX → Option (Int32 × SX)) (X B : Nat) (v : Int32) (σ : SX), Fin τ n T X v σ → (X = B ∨ v = 0) → P (bd_X4_isFaithful_45 rec (nI X) (nI B) v σ) := fun rec X B v σ hF hv => by
    rw [bd_X4_isFaithful_45]
    simp only [letb]
    rcases hv with hv | hv
    · subst hv
      rw [if_pos rfl]
      exact hk X v σ hF
    · subst hv
      by_cases c : nI X = nI B
      · rw [if_pos c]; exact hk X 0 σ hF
      · rw [if_neg c]
        first
        | (rw [if_pos trivial]; exact hk X 0 σ hF)
        | (rw [if_pos (show (0 : Int32) = 0 from rfl)]; exact hk X 0 σ hF)
  have done : ∀ X σ, FI τ n T X σ → (∀ s, X.testBit s = true → ∀ l, l < 6 → OKs n T X s l) → Fin τ n T X 1 σ := fun X σ hI hO => by
    have e : X = rch T (n - 1) := by
      refine Nat.eq_of_testBit_eq fun k => bool_iff ⟨hI.2.1 k, fun hkk => ?_⟩
      exact rch_ind (T := T) (fun t => X.testBit t = true) hI.2.2.1 (fun l s t e hP => (hO s hP l (hT.2.2 l s t e).1).2 t e) (n - 1) k hkk
    exact Or.inl ⟨rfl, hI, e, fun s hs l hl => (hO s (by rw [e]; exact hs) l hl).1⟩
  refine loop_rel (body := bd_X4_isFaithful_45) (bot := fun _ _ _ _ => none) (fun _ (x : Nat × Nat × Int32 × SX) g => g (nI x.1) (nI x.2.1) x.2.2.1 x.2.2.2) 12 (fun i x => F45 τ n T i x) P ?_ ?_ FU 0 x (Nat.zero_le _) (by decide) hx
  · intro rec i x hi hF hk2
    obtain ⟨X, B, v, σ⟩ := x
    rcases hF with ⟨h1, hI, hB, hp, hs, hO⟩ | hL
    · have h1 : v = 1 := h1
      subst h1
      by_cases c : X = B
      · exact leave rec X B 1 σ (done X σ hI (by subst c; exact hO)) (Or.inl c)
      · have hXl := hI.lt hT
        have hp := hp.resolve_left c
        show P (bd_X4_isFaithful_45 rec (nI X) (nI B) 1 σ)
        rw [bd_X4_isFaithful_45]
        simp only [letb]
        rw [if_neg (nI_ne (by omega) (by have : B < 2 ^ 12 := hB; omega) c), if_neg (show ¬ (1 : Int32) = 0 by decide)]
        refine F_60 (X0 := X) hT h hXl P (fun y hy => ?_) (X, 1, σ) (Or.inl ⟨rfl, hI, fun q hq => hq, fun s' h' => by omega⟩)
        refine hk2 (y.1, X, y.2.1, y.2.2) ?_
        rcases hy with ⟨y1, yI, yX, yo⟩ | hL
        · refine Or.inl ⟨y1, yI, hXl, ?_, yX, fun s hs l hl => yo s ?_ hs l hl⟩
          · by_cases e : y.1 = X
            · exact Or.inl e
            · refine Or.inr ?_
              have := pc_lt (show subn X y.1 from yX) hXl (yI.lt hT) (Ne.symm e)
              have hp : i + 1 ≤ pc X := hp
              show i + 1 + 1 ≤ pc y.1
              omega
          · exact rch_lt_n hT (hI.2.1 s hs)
        · exact Or.inr hL
    · exact leave rec X B v σ (Or.inr hL) (Or.inr hL.1)
  · intro rec x hF
    obtain ⟨X, B, v, σ⟩ := x
    rcases hF with ⟨h1, hI, hB, hp, hs, hO⟩ | hL
    · have h1 : v = 1 := h1
      subst h1
      have c : X = B := by
        rcases hp with hp | hp
        · exact hp
        · have hp : 12 + 1 ≤ pc X := hp
          have := pc_le X
          omega
      exact leave rec X B 1 σ (done X σ hI (by subst c; exact hO)) (Or.inl c)
    · exact leave rec X B v σ (Or.inr hL) (Or.inr hL.1)
