/-! 42: the answers of the class's methods that may throw -/
theorem bx_ok {α β : Type} {a : α} {σ : SX} {k : α → SX → Option ((β ⊕ String) × SX)} : bindx (some (.inl a, σ)) k = k a σ := rfl
theorem bx_bad {α β : Type} {e : String} {σ : SX} {k : α → SX → Option ((β ⊕ String) × SX)} : bindx (some ((.inr e : α ⊕ String), σ)) k = some (.inr e, σ) := rfl
def XOk {α : Type} (o : Option ((α ⊕ String) × SX)) (n : Nat) (T : TT) (mk : Option Nat) (r : α) : Prop := ∃ σ', o = some (.inl r, σ') ∧ XI σ' n T mk
def XBad {α : Type} (o : Option ((α ⊕ String) × SX)) (n : Nat) (T : TT) (mk : Option Nat) (e : String) : Prop := ∃ σ', o = some (.inr e, σ') ∧ XI σ' n T mk
theorem I_nlt {x y : Int32} (h : y ≤ x) : ¬ x < y := fun q => by
  have h1 := Int32.lt_iff_toInt_lt.mp q
  have h2 := Int32.le_iff_toInt_le.mp h
  omega
theorem I_nle {x y : Int32} (h : y < x) : ¬ x ≤ y := fun q => by
  have h1 := Int32.lt_iff_toInt_lt.mp h
  have h2 := Int32.le_iff_toInt_le.mp q
  omega
theorem nIlt {a b : Nat} (h : a < b) (hb : b < 2 ^ 31) : nI a < nI b := by
  rw [Int32.lt_iff_toInt_lt, nI_toInt (by omega), nI_toInt hb]; omega
theorem zr_b2i (b : Bool) : zr (b2i b) = some (b2i b) := by cases b <;> rfl
section API
variable {σ : SX} {n : Nat} {T : TT} {mk : Option Nat}
theorem X_needState_ok (hT : Sys n T) (h : XI σ n T mk) {s : Nat} (hs : s < n) : fn_X3_needState σ (nI s) = some (.inl (), σ) := by
  have hn := hT.2.1
  unfold fn_X3_needState
  simp only [letb]
  rw [if_neg (nI_pos (by omega)), h.1.1.1, if_pos (nIlt hs (by omega))]
theorem X_needState_bad (h : XI σ n T mk) {x : Int32} (hx : bad n x) : fn_X3_needState σ x = some (.inr exI, σ) := by
  unfold fn_X3_needState
  simp only [letb]
  by_cases c : x < 0
  · rw [if_pos c]; rfl
  · rw [if_neg c, h.1.1.1, if_neg (I_nlt (hx.resolve_left c))]; rfl
theorem X_needLabel_ok {l : Nat} (hl : l < 6) : fn_X3_needLabel σ (nI l) = some (.inl (), σ) := by
  unfold fn_X3_needLabel
  simp only [letb]
  rw [if_neg (nI_pos (by omega)), if_pos (show nI l < (6 : Int32) from nIlt hl (by decide))]
theorem X_needLabel_bad {x : Int32} (hx : bad 6 x) : fn_X3_needLabel σ x = some (.inr exI, σ) := by
  unfold fn_X3_needLabel
  simp only [letb]
  by_cases c : x < 0
  · rw [if_pos c]; rfl
  · rw [if_neg c, if_neg (show ¬ x < (6 : Int32) from I_nlt (hx.resolve_left c))]; rfl
theorem X_needSet_ok (hT : Sys n T) (h : XI σ n T mk) {a : Nat} (ha : a < 2 ^ n) : fn_X3_needSet σ (nI a) = some (.inl (), σ) := by
  have := p12 hT
  unfold fn_X3_needSet
  simp only [letb]
  rw [if_neg (nI_pos (by omega)), L_all hT h.1.1, Option.bind_some, if_pos (nI_le (by omega) (by omega))]
theorem X_needSet_bad (hT : Sys n T) (h : XI σ n T mk) {x : Int32} (hx : bad (2 ^ n) x) : fn_X3_needSet σ x = some (.inr exA, σ) := by
  have := p12 hT
  have h2 : 0 < 2 ^ n := Nat.two_pow_pos n
  unfold fn_X3_needSet
  simp only [letb]
  by_cases c : x < 0
  · rw [if_pos c]; rfl
  · rw [if_neg c, L_all hT h.1.1, Option.bind_some, if_neg (fun q => ?_)]; · rfl
    have h3 := Int32.le_iff_toInt_le.mp (hx.resolve_left c)
    have h4 := Int32.le_iff_toInt_le.mp q
    rw [nI_toInt (by omega)] at h3 h4
    omega
theorem X_needRegion_ok (hT : Sys n T) (h : XI σ n T mk) {k : Nat} (hk : k < (RgL n T).length) : ∃ σ', fn_X3_needRegion σ (nI k) = some (.inl (), σ') ∧ XI σ' n T mk ∧ RegD σ' (RgL n T) := by
  obtain ⟨σ1, e1, k1, h2, hR⟩ := L_count hT h.1 h.2.1
  have hlen := RgL_len hT
  unfold fn_X3_needRegion bind2
  simp only [letb]
  rw [if_neg (nI_pos (by omega)), e1, Option.bind_some, if_pos (nIlt hk (by omega))]
  exact ⟨σ1, rfl, h.keepR k1 (Or.inr ⟨h2, hR⟩), hR⟩
theorem X_needRegion_bad (hT : Sys n T) (h : XI σ n T mk) {x : Int32} (hx : bad (RgL n T).length x) : ∃ σ', fn_X3_needRegion σ x = some (.inr exI, σ') ∧ XI σ' n T mk := by
  obtain ⟨σ1, e1, k1, h2, hR⟩ := L_count hT h.1 h.2.1
  unfold fn_X3_needRegion bind2
  simp only [letb]
  by_cases c : x < 0
  · rw [if_pos c]; exact ⟨σ, rfl, h⟩
  · rw [if_neg c, e1, Option.bind_some, if_neg (I_nlt (hx.resolve_left c))]
    exact ⟨σ1, rfl, h.keepR k1 (Or.inr ⟨h2, hR⟩)⟩
theorem X_needNet_ok {m : Nat} (h : XI σ n T (some m)) : fn_X3_needNet σ = some (.inl (), σ) := by
  unfold fn_X3_needNet
  rw [if_pos (show ¬ σ.1 3 = 0 by rw [h.2.2.1]; decide)]
theorem X_needNet_no (h : XI σ n T none) : fn_X3_needNet σ = some (.inr exS, σ) := by
  unfold fn_X3_needNet
  rw [if_neg (fun q => q h.2.2)]; rfl
theorem X_changed {σ1 : SX} (h1 : StOk σ1 n T) : ∃ σ', fn_X3_changed σ1 = some σ' ∧ XI σ' n T none := by
  unfold fn_X3_changed
  simp only [letb]
  refine ⟨_, rfl, h1.of (by rw [ss_ne (by decide), ss_ne (by decide)]) rfl, Or.inl (by rw [ss_ne (by decide), ss_self]), ?_⟩
  exact ss_self
theorem X_addState_ok (hT : Sys n T) (h : XI σ n T mk) (hn : n < 12) : XOk (fn_X3_addState σ) (n + 1) T none (nI n) := by
  unfold fn_X3_addState
  simp only [letb]
  rw [h.1.1.1, if_pos (show nI n < (12 : Int32) from nIlt hn (by decide))]
  obtain ⟨σ1, e1, i1⟩ := X_changed (n := n + 1) (T := T) (σ1 := ss σ 0 (nI n + 1)) ⟨⟨by rw [ss_self, nI_1], h.1.1.2.1, h.1.1.2.2⟩, h.1.2⟩
  rw [e1]
  exact ⟨σ1, rfl, i1⟩
theorem X_addState_bad (h : XI σ n T mk) (hn : n = 12) : XBad (fn_X3_addState σ) n T mk exS := by
  subst hn
  unfold fn_X3_addState
  rw [h.1.1.1, if_neg (by decide)]
  exact ⟨σ, rfl, h⟩
theorem X_step_ok (hT : Sys n T) (h : XI σ n T mk) {s l t : Nat} (hs : s < n) (hl : l < 6) (ht : t < n) : XOk (fn_X3_step σ (nI s) (nI l) (nI t)) n (upT T l s (some t)) none (enc (T l s)) := by
  have hn := hT.2.1
  unfold fn_X3_step
  simp only [letb]
  rw [X_needState_ok hT h hs, bx_ok, X_needLabel_ok hl, bx_ok, X_needState_ok hT h ht, bx_ok, L_end h.1.1 hl (by omega), Option.bind_some]
  obtain ⟨σ1, e1, h1⟩ := L_put hT h.1 (o := some t) hl hs (fun u hu => by cases hu; exact ht)
  rw [show nI t = enc (some t) from rfl, e1, Option.bind_some]
  obtain ⟨σ2, e2, i2⟩ := X_changed h1.1
  rw [e2]
  exact ⟨σ2, rfl, i2⟩
/-- two numbers are asked for, a state and a label -/
theorem X_sl_bad {α : Type} (hT : Sys n T) (h : XI σ n T mk) {x y : Int32} {k : Unit → SX → Option ((α ⊕ String) × SX)} (hb : bad n x ∨ bad 6 y) : XBad (bindx (fn_X3_needState σ x) fun _ σ1 => bindx (fn_X3_needLabel σ1 y) k) n T mk exI := by
  have hn := hT.2.1
  rcases ok_bad n x (by omega) with c | ⟨s, hs, rfl⟩
  · rw [X_needState_bad h c, bx_bad]; exact ⟨σ, rfl, h⟩
  · rw [X_needState_ok hT h hs, bx_ok, X_needLabel_bad (hb.resolve_left (nbad hs (by omega))), bx_bad]; exact ⟨σ, rfl, h⟩
theorem X_step_bad (hT : Sys n T) (h : XI σ n T mk) {x y z : Int32} (hb : bad n x ∨ bad 6 y ∨ bad n z) : XBad (fn_X3_step σ x y z) n T mk exI := by
  have hn := hT.2.1
  unfold fn_X3_step
  rcases ok_bad n x (by omega) with c | ⟨s, hs, rfl⟩
  · rw [X_needState_bad h c, bx_bad]; exact ⟨σ, rfl, h⟩
  · rw [X_needState_ok hT h hs, bx_ok]
    rcases ok_bad 6 y (by omega) with c | ⟨l, hl, rfl⟩
    · rw [X_needLabel_bad c, bx_bad]; exact ⟨σ, rfl, h⟩
    · rw [X_needLabel_ok hl, bx_ok, X_needState_bad h ((hb.resolve_left (nbad hs (by omega))).resolve_left (nbad hl (by omega))), bx_bad]; exact ⟨σ, rfl, h⟩
theorem upT_none_eq {l s : Nat} (h : T l s = none) : upT T l s none = T := by
  funext l' s'
  by_cases c : l' = l ∧ s' = s
  · obtain ⟨rfl, rfl⟩ := c; rw [upT_self, h]
  · exact upT_ne c
theorem X_unstep_ok (hT : Sys n T) (h : XI σ n T mk) {s l : Nat} (hs : s < n) (hl : l < 6) : XOk (fn_X3_unstep σ (nI s) (nI l)) n (upT T l s none) none (b2i (hasS T l s)) := by
  have hn := hT.2.1
  unfold fn_X3_unstep
  simp only [letb]
  rw [X_needState_ok hT h hs, bx_ok, X_needLabel_ok hl, bx_ok, L_end h.1.1 hl (by omega), Option.bind_some]
  have := enc_has hT (l := l) (s := s)
  by_cases c : T l s = none
  · have c1 : enc (T l s) = -1 := (enc_none hT).mpr c
    rw [if_pos c1] at this
    rw [if_pos c1, if_pos trivial, ← this, upT_none_eq c]
    obtain ⟨σ2, e2, i2⟩ := X_changed h.1
    rw [e2]
    exact ⟨σ2, rfl, i2⟩
  · have c1 : ¬ enc (T l s) = -1 := fun q => c ((enc_none hT).mp q)
    rw [if_neg c1] at this
    rw [if_neg c1, if_neg (by decide), ← this]
    obtain ⟨σ1, e1, h1⟩ := L_put hT h.1 (o := none) hl hs (fun u hu => by cases hu)
    rw [show (-1 : Int32) = enc none from rfl, e1, Option.bind_some]
    obtain ⟨σ2, e2, i2⟩ := X_changed h1.1
    rw [e2]
    exact ⟨σ2, rfl, i2⟩
theorem X_unstep_bad (hT : Sys n T) (h : XI σ n T mk) {x y : Int32} (hb : bad n x ∨ bad 6 y) : XBad (fn_X3_unstep σ x y) n T mk exI := X_sl_bad hT h hb
theorem X_target_ok (hT : Sys n T) (h : XI σ n T mk) {s l : Nat} (hs : s < n) (hl : l < 6) : XOk (fn_X3_target σ (nI s) (nI l)) n T mk (enc (T l s)) := by
  have hn := hT.2.1
  unfold fn_X3_target
  rw [X_needState_ok hT h hs, bx_ok, X_needLabel_ok hl, bx_ok, L_end h.1.1 hl (by omega), Option.bind_some]
  exact ⟨σ, rfl, h⟩
theorem X_target_bad (hT : Sys n T) (h : XI σ n T mk) {x y : Int32} (hb : bad n x ∨ bad 6 y) : XBad (fn_X3_target σ x y) n T mk exI := X_sl_bad hT h hb
theorem X_enabled_ok (hT : Sys n T) (h : XI σ n T mk) {s : Nat} (hs : s < n) : XOk (fn_X3_enabled σ (nI s)) n T mk (nI (enS T s)) := by
  have hn := hT.2.1
  unfold fn_X3_enabled
  simp only [letb]
  rw [X_needState_ok hT h hs, bx_ok]
  refine ⟨σ, ?_, h⟩
  refine loop_0m (body := bd_X3_enabled_9 (nI s) σ) (bot := fun _ _ => none) (fun i g => g (nI (mask i fun l => hasS T l s)) (nI i)) 6 _ (by decide) ?_ ?_
  · intro rec l hl
    rw [bd_X3_enabled_9, if_neg (show ¬ (6 : Int32) ≤ nI l from nI_ge hl (by decide)), L_end h.1.1 hl (by omega), Option.bind_some]
    simp only [letb]
    rw [nI_1]
    cases e : T l s with
    | none => rw [if_pos (show enc none = -1 from rfl), mask_skip (by unfold hasS; rw [e]; rfl)]
    | some t =>
      have ht := (hT.2.2 l s t e).2.2
      rw [if_neg (show ¬ enc (some t) = -1 from i_neg1 (by omega)), mask_step (P := fun l => hasS T l s) (by omega) (by unfold hasS; rw [e]; rfl)]
  · intro rec
    rw [bd_X3_enabled_9, if_pos (show (6 : Int32) ≤ nI 6 from nI_le (Nat.le_refl 6) (by decide))]; rfl
theorem X_s_bad {α : Type} (h : XI σ n T mk) {x : Int32} {k : Unit → SX → Option ((α ⊕ String) × SX)} (hb : bad n x) : XBad (bindx (fn_X3_needState σ x) k) n T mk exI := by
  rw [X_needState_bad h hb, bx_bad]; exact ⟨σ, rfl, h⟩
theorem X_a_bad {α : Type} (hT : Sys n T) (h : XI σ n T mk) {x : Int32} {k : Unit → SX → Option ((α ⊕ String) × SX)} (hb : bad (2 ^ n) x) : XBad (bindx (fn_X3_needSet σ x) k) n T mk exA := by
  rw [X_needSet_bad hT h hb, bx_bad]; exact ⟨σ, rfl, h⟩
theorem X_r_bad {α : Type} (hT : Sys n T) (h : XI σ n T mk) {x : Int32} {k : Unit → SX → Option ((α ⊕ String) × SX)} (hb : bad (RgL n T).length x) : XBad (bindx (fn_X3_needRegion σ x) k) n T mk exI := by
  obtain ⟨σ1, e1, h1⟩ := X_needRegion_bad hT h hb
  rw [e1, bx_bad]; exact ⟨σ1, rfl, h1⟩
theorem X_n_no {α : Type} (h : XI σ n T none) {k : Unit → SX → Option ((α ⊕ String) × SX)} : XBad (bindx (fn_X3_needNet σ) k) n T none exS := by
  rw [X_needNet_no h, bx_bad]; exact ⟨σ, rfl, h⟩
theorem X_nl_bad {α : Type} {m : Nat} (h : XI σ n T (some m)) {x : Int32} {k : Unit → SX → Option ((α ⊕ String) × SX)} (hb : bad 6 x) : XBad (bindx (fn_X3_needNet σ) fun _ σ1 => bindx (fn_X3_needLabel σ1 x) k) n T (some m) exI := by
  rw [X_needNet_ok h, bx_ok, X_needLabel_bad hb, bx_bad]; exact ⟨σ, rfl, h⟩
theorem X_enabled_bad (h : XI σ n T mk) {x : Int32} (hb : bad n x) : XBad (fn_X3_enabled σ x) n T mk exI := X_s_bad h hb
theorem X_distance_ok (hT : Sys n T) (h : XI σ n T mk) {s : Nat} (hs : s < n) : XOk (fn_X3_distance σ (nI s)) n T mk (enc (distS T n s)) := by
  have hn := hT.2.1
  unfold fn_X3_distance
  rw [X_needState_ok hT h hs, bx_ok, L_distance hT h.1.1 (by omega), Option.bind_some]
  exact ⟨σ, rfl, h⟩
theorem X_distance_bad (h : XI σ n T mk) {x : Int32} (hb : bad n x) : XBad (fn_X3_distance σ x) n T mk exI := X_s_bad h hb
theorem X_crossing_ok (hT : Sys n T) (h : XI σ n T mk) {a l : Nat} (ha : a < 2 ^ n) (hl : l < 6) : XOk (fn_X3_crossing σ (nI a) (nI l)) n T mk (nI (wayS T l a)) := by
  have := p12 hT
  unfold fn_X3_crossing
  rw [X_needSet_ok hT h ha, bx_ok, X_needLabel_ok hl, bx_ok, L_way h.1.1 hl (h.1.2 l hl) (by omega), Option.bind_some]
  exact ⟨σ, rfl, h⟩
theorem X_crossing_bad1 (hT : Sys n T) (h : XI σ n T mk) {x y : Int32} (hb : bad (2 ^ n) x) : XBad (fn_X3_crossing σ x y) n T mk exA := X_a_bad hT h hb
theorem X_crossing_bad2 (hT : Sys n T) (h : XI σ n T mk) {a : Nat} {y : Int32} (ha : a < 2 ^ n) (hb : bad 6 y) : XBad (fn_X3_crossing σ (nI a) y) n T mk exI := by
  unfold fn_X3_crossing
  rw [X_needSet_ok hT h ha, bx_ok, X_needLabel_bad hb, bx_bad]
  exact ⟨σ, rfl, h⟩
theorem X_isRegion_ok (hT : Sys n T) (h : XI σ n T mk) {a : Nat} (ha : a < 2 ^ n) : XOk (fn_X3_isRegion σ (nI a)) n T mk (b2i (isReg n T a)) := by
  unfold fn_X3_isRegion
  rw [X_needSet_ok hT h ha, bx_ok, L_isOne hT h.1 ha, Option.bind_some, zr_b2i]
  exact ⟨σ, rfl, h⟩
theorem X_isRegion_bad (hT : Sys n T) (h : XI σ n T mk) {x : Int32} (hb : bad (2 ^ n) x) : XBad (fn_X3_isRegion σ x) n T mk exA := X_a_bad hT h hb
theorem X_region_ok (hT : Sys n T) (h : XI σ n T mk) {k : Nat} (hk : k < (RgL n T).length) : XOk (fn_X3_region σ (nI k)) n T mk (nI (rg n T k)) := by
  obtain ⟨σ1, e1, h1, hR⟩ := X_needRegion_ok hT h hk
  unfold fn_X3_region
  rw [e1, bx_ok, L_at hT hR hk, Option.bind_some]
  exact ⟨σ1, rfl, h1⟩
theorem X_region_bad (hT : Sys n T) (h : XI σ n T mk) {x : Int32} (hb : bad (RgL n T).length x) : XBad (fn_X3_region σ x) n T mk exI := X_r_bad hT h hb
theorem X_isLeast_ok (hT : Sys n T) (h : XI σ n T mk) {k : Nat} (hk : k < (RgL n T).length) : XOk (fn_X3_isLeast σ (nI k)) n T mk (b2i (leastS n T k)) := by
  obtain ⟨σ1, e1, h1, hR⟩ := X_needRegion_ok hT h hk
  unfold fn_X3_isLeast
  rw [e1, bx_ok, L_hasNoPart hT hR hk, Option.bind_some, zr_b2i]
  exact ⟨σ1, rfl, h1⟩
theorem X_isLeast_bad (hT : Sys n T) (h : XI σ n T mk) {x : Int32} (hb : bad (RgL n T).length x) : XBad (fn_X3_isLeast σ x) n T mk exI := X_r_bad hT h hb
theorem X_grow_ok (hT : Sys n T) (h : XI σ n T mk) {a : Nat} (ha : a < 2 ^ n) : XOk (fn_X3_grow σ (nI a)) n T mk (nI (growK T a 12)) := by
  have := p12 hT
  unfold fn_X3_grow
  rw [X_needSet_ok hT h ha, bx_ok, L_grown hT h.1 (by omega), Option.bind_some]
  exact ⟨σ, rfl, h⟩
theorem X_grow_bad (hT : Sys n T) (h : XI σ n T mk) {x : Int32} (hb : bad (2 ^ n) x) : XBad (fn_X3_grow σ x) n T mk exA := X_a_bad hT h hb
theorem X_apart_ok (hT : Sys n T) (h : XI σ n T mk) {a b : Nat} (ha : a < n) (hb : b < n) : XOk (fn_X3_apart σ (nI a) (nI b)) n T mk (enc (apartS n T a b)) := by
  have hn := hT.2.1
  obtain ⟨σ1, e1, k1, q2, qR⟩ := L_firstApart hT h.1 h.2.1 (a := a) (b := b) (by omega) (by omega)
  unfold fn_X3_apart bind2
  rw [X_needState_ok hT h ha, bx_ok, X_needState_ok hT h hb, bx_ok, e1, Option.bind_some]
  exact ⟨σ1, rfl, h.keepR k1 (Or.inr ⟨q2, qR⟩)⟩
theorem X_apart_bad (hT : Sys n T) (h : XI σ n T mk) {x y : Int32} (hb : bad n x ∨ bad n y) : XBad (fn_X3_apart σ x y) n T mk exI := by
  have hn := hT.2.1
  unfold fn_X3_apart
  rcases ok_bad n x (by omega) with c | ⟨s, hs, rfl⟩
  · rw [X_needState_bad h c, bx_bad]; exact ⟨σ, rfl, h⟩
  · rw [X_needState_ok hT h hs, bx_ok, X_needState_bad h (hb.resolve_left (nbad hs (by omega))), bx_bad]; exact ⟨σ, rfl, h⟩
theorem X_preventer_ok (hT : Sys n T) (h : XI σ n T mk) {s l : Nat} (hs : s < n) (hl : l < 6) : XOk (fn_X3_preventer σ (nI s) (nI l)) n T mk (pvS n T s l) := by
  have hn := hT.2.1
  obtain ⟨σ1, e1, k1, q2, qR⟩ := L_firstPreventing hT h.1 h.2.1 (s := s) (l := l) (by omega) hl
  unfold fn_X3_preventer
  rw [X_needState_ok hT h hs, bx_ok, X_needLabel_ok hl, bx_ok, L_end h.1.1 hl (by omega), Option.bind_some]
  unfold pvS bind2
  by_cases c : T l s = none
  · rw [if_pos ((enc_none hT).mpr c), if_pos c, e1]
    exact ⟨σ1, rfl, h.keepR k1 (Or.inr ⟨q2, qR⟩)⟩
  · rw [if_neg (fun q => c ((enc_none hT).mp q)), if_neg c]
    exact ⟨σ, rfl, h⟩
theorem X_preventer_bad (hT : Sys n T) (h : XI σ n T mk) {x y : Int32} (hb : bad n x ∨ bad 6 y) : XBad (fn_X3_preventer σ x y) n T mk exI := X_sl_bad hT h hb
theorem X_placeRegion_ok {m p : Nat} (hT : Sys n T) (h : XI σ n T (some m)) (hp : p < (PL n T).length) : XOk (fn_X3_placeRegion σ (nI p)) n T (some m) (nI (pg n T p)) := by
  have hPL : (PL n T).length ≤ 30 := PL_len
  unfold fn_X3_placeRegion fn_X0_regionOf
  rw [X_needNet_ok h, bx_ok]
  simp only [letb]
  rw [if_neg (nI_pos (by omega)), h.2.2.2.1.1.1, if_pos (nIlt hp (by omega)), ag_nI (by omega) (by decide), Option.bind_some, h.2.2.2.1.1.2 p hp]
  exact ⟨σ, rfl, h⟩
theorem X_placeRegion_bad {m : Nat} {x : Int32} (h : XI σ n T (some m)) (hb : bad (PL n T).length x) : XBad (fn_X3_placeRegion σ x) n T (some m) exI := by
  unfold fn_X3_placeRegion
  rw [X_needNet_ok h, bx_ok]
  simp only [letb]
  by_cases c : x < 0
  · rw [if_pos c]; exact ⟨σ, rfl, h⟩
  · rw [if_neg c, h.2.2.2.1.1.1, if_neg (I_nlt (hb.resolve_left c))]; exact ⟨σ, rfl, h⟩
theorem X_placeRegion_no {x : Int32} (h : XI σ n T none) : XBad (fn_X3_placeRegion σ x) n T none exS := X_n_no h
theorem X_consumed_ok {m l : Nat} (h : XI σ n T (some m)) (hl : l < 6) : XOk (fn_X3_consumed σ (nI l)) n T (some m) (nI (crossS n T l 2)) := by
  unfold fn_X3_consumed fn_X0_takenBy
  rw [X_needNet_ok h, bx_ok, X_needLabel_ok hl, bx_ok, ag_nI (by omega) (by decide), Option.bind_some, Option.bind_some, (h.2.2.2.1.2.1 l hl).1]
  exact ⟨σ, rfl, h⟩
theorem X_consumed_bad {m : Nat} {x : Int32} (h : XI σ n T (some m)) (hb : bad 6 x) : XBad (fn_X3_consumed σ x) n T (some m) exI := X_nl_bad h hb
theorem X_consumed_no {x : Int32} (h : XI σ n T none) : XBad (fn_X3_consumed σ x) n T none exS := X_n_no h
theorem X_produced_ok {m l : Nat} (h : XI σ n T (some m)) (hl : l < 6) : XOk (fn_X3_produced σ (nI l)) n T (some m) (nI (crossS n T l 1)) := by
  unfold fn_X3_produced fn_X0_givenBy
  rw [X_needNet_ok h, bx_ok, X_needLabel_ok hl, bx_ok, ag_nI (by omega) (by decide), Option.bind_some, Option.bind_some, (h.2.2.2.1.2.1 l hl).2]
  exact ⟨σ, rfl, h⟩
theorem X_produced_bad {m : Nat} {x : Int32} (h : XI σ n T (some m)) (hb : bad 6 x) : XBad (fn_X3_produced σ x) n T (some m) exI := X_nl_bad h hb
theorem X_produced_no {x : Int32} (h : XI σ n T none) : XBad (fn_X3_produced σ x) n T none exS := X_n_no h
theorem X_marking_ok {m : Nat} (h : XI σ n T (some m)) : XOk (fn_X3_marking σ) n T (some m) (nI m) := by
  unfold fn_X3_marking
  rw [X_needNet_ok h, bx_ok, h.2.2.2.2.2.1]
  exact ⟨σ, rfl, h⟩
theorem X_marking_no (h : XI σ n T none) : XBad (fn_X3_marking σ) n T none exS := X_n_no h
theorem X_fire_ok {m l : Nat} (h : XI σ n T (some m)) (hl : l < 6) : XOk (fn_X3_fire σ (nI l)) n T (some (fireM n T l m)) (enc (behO n T l m)) := by
  obtain ⟨h1, h2, h3, h4, h5, h6, h7⟩ := h
  unfold fn_X3_fire
  rw [X_needNet_ok (m := m) ⟨h1, h2, h3, h4, h5, h6, h7⟩, bx_ok, X_needLabel_ok hl, bx_ok, h6, L_canFire h1.1 h4 hl h7, Option.bind_some]
  unfold behO fireM
  cases canS n T l m with
  | false =>
    rw [if_neg (show ¬ ¬ b2i false = 0 from fun q => q rfl), if_neg (show ¬ false = true by decide), if_neg (show ¬ false = true by decide)]
    exact ⟨σ, rfl, h1, h2, h3, h4, h5, h6, h7⟩
  | true =>
    have bb := behS_lt (n := n) (T := T) (l := l) h7
    rw [if_pos (show ¬ b2i true = 0 by decide), if_pos (show true = true from rfl), if_pos (show true = true from rfl), L_behind h4 hl h7, Option.bind_some]
    simp only [letb]
    refine ⟨ss σ 6 (nI (behS n T l m)), by rw [ss_self]; rfl, h1.of (ss_ne (by decide)) rfl, h2.same (ss_ne (by decide)) (ss_ne (by decide)) rfl, (ss_ne (by decide)).trans h3, ⟨⟨(ss_ne (by decide)).trans h4.1.1, h4.1.2⟩, h4.2.1, (ss_ne (by decide)).trans h4.2.2⟩, ?_, ss_self, bb⟩
    rcases h5 with q | q
    · exact Or.inl ((ss_ne (by decide)).trans q)
    · exact Or.inr ⟨(ss_ne (by decide)).trans q.1, q.2⟩
theorem X_fire_bad {m : Nat} {x : Int32} (h : XI σ n T (some m)) (hb : bad 6 x) : XBad (fn_X3_fire σ x) n T (some m) exI := X_nl_bad h hb
theorem X_fire_no {x : Int32} (h : XI σ n T none) : XBad (fn_X3_fire σ x) n T none exS := X_n_no h
theorem X_markingCount_ok {m : Nat} (h : XI σ n T (some m)) : XOk (fn_X3_markingCount σ) n T (some m) (nI (ML n T).length) := by
  obtain ⟨σ1, e1, k1, hM⟩ := L_markingsFound h.1.1 h.2.2.2.1 h.2.2.2.2.1
  unfold fn_X3_markingCount bind2
  rw [X_needNet_ok h, bx_ok, e1, Option.bind_some]
  exact ⟨σ1, rfl, h.keepM k1 hM⟩
theorem X_markingCount_no (h : XI σ n T none) : XBad (fn_X3_markingCount σ) n T none exS := X_n_no h
theorem X_markingAt_ok {m p : Nat} (h : XI σ n T (some m)) (hp : p < (ML n T).length) : XOk (fn_X3_markingAt σ (nI p)) n T (some m) (nI ((ML n T).getD p 0)) := by
  have hl : (ML n T).length ≤ 200 := (mkS_ok (n := n) (T := T) 200).1
  obtain ⟨σ1, e1, k1, hM⟩ := L_markingsFound h.1.1 h.2.2.2.1 h.2.2.2.2.1
  unfold fn_X3_markingAt bind2
  rw [X_needNet_ok h, bx_ok]
  simp only [letb]
  rw [if_neg (nI_pos (by omega)), e1, Option.bind_some, if_pos (nIlt hp (by omega)), L_markingFound hM (mkS_ok (n := n) (T := T) 200) hp, Option.bind_some]
  exact ⟨σ1, rfl, h.keepM k1 hM⟩
theorem X_markingAt_bad {m : Nat} {x : Int32} (h : XI σ n T (some m)) (hb : bad (ML n T).length x) : XBad (fn_X3_markingAt σ x) n T (some m) exI := by
  obtain ⟨σ1, e1, k1, hM⟩ := L_markingsFound h.1.1 h.2.2.2.1 h.2.2.2.2.1
  unfold fn_X3_markingAt bind2
  rw [X_needNet_ok h, bx_ok]
  simp only [letb]
  by_cases c : x < 0
  · rw [if_pos c]; exact ⟨σ, rfl, h⟩
  · rw [if_neg c, e1, Option.bind_some, if_neg (I_nlt (hb.resolve_left c))]; exact ⟨σ1, rfl, h.keepM k1 hM⟩
theorem X_markingAt_no {x : Int32} (h : XI σ n T none) : XBad (fn_X3_markingAt σ x) n T none exS := X_n_no h
theorem X_isFaithful_ok {m : Nat} (hT : Sys n T) (h : XI σ n T (some m)) : XOk (fn_X3_isFaithful σ) n T (some m) (b2i (faithS n T)) := by
  unfold fn_X3_isFaithful
  rw [X_needNet_ok h, bx_ok, L_faith hT h.1.1 h.2.2.2.1, Option.bind_some, zr_b2i]
  exact ⟨σ, rfl, h⟩
theorem X_isFaithful_no (h : XI σ n T none) : XBad (fn_X3_isFaithful σ) n T none exS := X_n_no h
end API
