/-! 42: the answers of the class's methods that may throw, where they don't -/
def XOk {α : Type} (o : Option (α × SX)) (n : Nat) (T : TT) (mk : Option Nat) (r : α) : Prop := ∃ σ', o = some (r, σ') ∧ XI σ' n T mk
theorem I_nlt {x y : Int32} (h : y ≤ x) : ¬ x < y := fun q => by
  have h1 := Int32.lt_iff_toInt_lt.mp q
  have h2 := Int32.le_iff_toInt_le.mp h
  omega
theorem I_nle {x y : Int32} (h : y < x) : ¬ x ≤ y := fun q => by
  have h1 := Int32.lt_iff_toInt_lt.mp h
  have h2 := Int32.le_iff_toInt_le.mp q
  omega
theorem nIlt {a b : Nat} (h : a < b) (hb : b < 2 ^ 31) : nI a < nI b := by
  rw [Int32.lt_iff_toInt_lt, nI_toInt (by omega), nI_toInt hb]; omega
theorem zr_b2i (b : Bool) : zr (b2i b) = some (b2i b) := by cases b <;> rfl
section API
variable {σ : SX} {n : Nat} {T : TT} {mk : Option Nat}

theorem X_needState_ok (hT : Sys n T) (h : XI σ n T mk) {s : Nat} (hs : s < n) : fn_X3_needState σ (nI s) = some σ := by
  have hn := hT.2.1
  unfold fn_X3_needState
  simp only [letb]
  rw [if_neg (nI_pos (by omega)), h.1.1.1, if_pos (nIlt hs (by omega))]
theorem X_needLabel_ok {l : Nat} (hl : l < 6) : fn_X3_needLabel σ (nI l) = some σ := by
  unfold fn_X3_needLabel
  simp only [letb]
  rw [if_neg (nI_pos (by omega)), if_pos (show nI l < (6 : Int32) from nIlt hl (by decide))]
theorem X_needSet_ok (hT : Sys n T) (h : XI σ n T mk) {a : Nat} (ha : a < 2 ^ n) : fn_X3_needSet σ (nI a) = some σ := by
  have := p12 hT
  unfold fn_X3_needSet
  simp only [letb]
  rw [if_neg (nI_pos (by omega)), L_all hT h.1.1, Option.bind_some, if_pos (nI_le (by omega) (by omega))]
theorem X_needRegion_ok (hT : Sys n T) (h : XI σ n T mk) {k : Nat} (hk : k < (RgL n T).length) : ∃ σ', fn_X3_needRegion σ (nI k) = some σ' ∧ XI σ' n T mk ∧ RegD σ' (RgL n T) := by
  obtain ⟨σ1, e1, k1, h2, hR⟩ := L_count hT h.1 h.2.1
  have hlen := RgL_len hT
  unfold fn_X3_needRegion bind2
  simp only [letb]
  rw [if_neg (nI_pos (by omega)), e1, Option.bind_some, if_pos (nIlt hk (by omega))]
  exact ⟨σ1, rfl, h.keepR k1 (Or.inr ⟨h2, hR⟩), hR⟩
theorem X_needNet_ok {m : Nat} (h : XI σ n T (some m)) : fn_X3_needNet σ = some σ := by
  unfold fn_X3_needNet
  rw [if_pos (show ¬ σ.1 3 = 0 by rw [h.2.2.1]; decide)]
theorem X_changed {σ1 : SX} (h1 : StOk σ1 n T) : ∃ σ', fn_X3_changed σ1 = some σ' ∧ XI σ' n T none := by
  unfold fn_X3_changed
  simp only [letb]
  refine ⟨_, rfl, h1.of (by rw [ss_ne (by decide), ss_ne (by decide)]) rfl, Or.inl (by rw [ss_ne (by decide), ss_self]), ?_⟩
  exact ss_self
theorem X_addState_ok (hT : Sys n T) (h : XI σ n T mk) (hn : n < 12) : XOk (fn_X3_addState σ) (n + 1) T none (nI n) := by
  unfold fn_X3_addState
  simp only [letb]
  rw [h.1.1.1, if_pos (show nI n < (12 : Int32) from nIlt hn (by decide))]
  obtain ⟨σ1, e1, i1⟩ := X_changed (n := n + 1) (T := T) (σ1 := ss σ 0 (nI n + 1)) ⟨⟨by rw [ss_self, nI_1], h.1.1.2.1, h.1.1.2.2⟩, h.1.2⟩
  rw [e1]
  exact ⟨σ1, rfl, i1⟩
theorem X_step_ok (hT : Sys n T) (h : XI σ n T mk) {s l t : Nat} (hs : s < n) (hl : l < 6) (ht : t < n) : XOk (fn_X3_step σ (nI s) (nI l) (nI t)) n (upT T l s (some t)) none (enc (T l s)) := by
  have hn := hT.2.1
  unfold fn_X3_step
  simp only [letb]
  rw [X_needState_ok hT h hs, Option.bind_some, X_needLabel_ok hl, Option.bind_some, X_needState_ok hT h ht, Option.bind_some, L_end h.1.1 hl (by omega), Option.bind_some]
  obtain ⟨σ1, e1, h1⟩ := L_put hT h.1 (o := some t) hl hs (fun u hu => by cases hu; exact ht)
  rw [show nI t = enc (some t) from rfl, e1, Option.bind_some]
  obtain ⟨σ2, e2, i2⟩ := X_changed h1.1
  rw [e2]
  exact ⟨σ2, rfl, i2⟩
theorem X_target_ok (hT : Sys n T) (h : XI σ n T mk) {s l : Nat} (hs : s < n) (hl : l < 6) : XOk (fn_X3_target σ (nI s) (nI l)) n T mk (enc (T l s)) := by
  have hn := hT.2.1
  unfold fn_X3_target
  rw [X_needState_ok hT h hs, Option.bind_some, X_needLabel_ok hl, Option.bind_some, L_end h.1.1 hl (by omega), Option.bind_some]
  exact ⟨σ, rfl, h⟩
theorem X_crossing_ok (hT : Sys n T) (h : XI σ n T mk) {a l : Nat} (ha : a < 2 ^ n) (hl : l < 6) : XOk (fn_X3_crossing σ (nI a) (nI l)) n T mk (nI (wayS T l a)) := by
  have := p12 hT
  unfold fn_X3_crossing
  rw [X_needSet_ok hT h ha, Option.bind_some, X_needLabel_ok hl, Option.bind_some, L_way h.1.1 hl (h.1.2 l hl) (by omega), Option.bind_some]
  exact ⟨σ, rfl, h⟩
theorem X_isRegion_ok (hT : Sys n T) (h : XI σ n T mk) {a : Nat} (ha : a < 2 ^ n) : XOk (fn_X3_isRegion σ (nI a)) n T mk (b2i (isReg n T a)) := by
  unfold fn_X3_isRegion
  rw [X_needSet_ok hT h ha, Option.bind_some, L_isOne hT h.1 ha, Option.bind_some, zr_b2i]
  exact ⟨σ, rfl, h⟩
theorem X_region_ok (hT : Sys n T) (h : XI σ n T mk) {k : Nat} (hk : k < (RgL n T).length) : XOk (fn_X3_region σ (nI k)) n T mk (nI (rg n T k)) := by
  obtain ⟨σ1, e1, h1, hR⟩ := X_needRegion_ok hT h hk
  unfold fn_X3_region
  rw [e1, Option.bind_some, L_at hT hR hk, Option.bind_some]
  exact ⟨σ1, rfl, h1⟩
theorem X_isLeast_ok (hT : Sys n T) (h : XI σ n T mk) {k : Nat} (hk : k < (RgL n T).length) : XOk (fn_X3_isLeast σ (nI k)) n T mk (b2i (leastS n T k)) := by
  obtain ⟨σ1, e1, h1, hR⟩ := X_needRegion_ok hT h hk
  unfold fn_X3_isLeast
  rw [e1, Option.bind_some, L_hasNoPart hT hR hk, Option.bind_some, zr_b2i]
  exact ⟨σ1, rfl, h1⟩
theorem X_grow_ok (hT : Sys n T) (h : XI σ n T mk) {a : Nat} (ha : a < 2 ^ n) : XOk (fn_X3_grow σ (nI a)) n T mk (nI (growK T a 12)) := by
  have := p12 hT
  unfold fn_X3_grow
  rw [X_needSet_ok hT h ha, Option.bind_some, L_grown hT h.1 (by omega), Option.bind_some]
  exact ⟨σ, rfl, h⟩
theorem X_placeRegion_ok {m p : Nat} (hT : Sys n T) (h : XI σ n T (some m)) (hp : p < (PL n T).length) : XOk (fn_X3_placeRegion σ (nI p)) n T (some m) (nI (pg n T p)) := by
  have hPL : (PL n T).length ≤ 30 := PL_len
  unfold fn_X3_placeRegion fn_X0_regionOf
  rw [X_needNet_ok h, Option.bind_some]
  simp only [letb]
  rw [if_neg (nI_pos (by omega)), h.2.2.2.1.1.1, if_pos (nIlt hp (by omega)), ag_nI (by omega) (by decide), Option.bind_some, h.2.2.2.1.1.2 p hp]
  exact ⟨σ, rfl, h⟩
theorem X_fire_ok {m l : Nat} (h : XI σ n T (some m)) (hl : l < 6) : XOk (fn_X3_fire σ (nI l)) n T (some (fireM n T l m)) (enc (behO n T l m)) := by
  obtain ⟨h1, h2, h3, h4, h5, h6, h7⟩ := h
  unfold fn_X3_fire
  rw [X_needNet_ok (m := m) ⟨h1, h2, h3, h4, h5, h6, h7⟩, Option.bind_some, X_needLabel_ok hl, Option.bind_some, h6, L_canFire h1.1 h4 hl h7, Option.bind_some]
  unfold behO fireM
  cases canS n T l m with
  | false =>
    rw [if_neg (show ¬ ¬ b2i false = 0 from fun q => q rfl), if_neg (show ¬ false = true by decide), if_neg (show ¬ false = true by decide)]
    exact ⟨σ, rfl, h1, h2, h3, h4, h5, h6, h7⟩
  | true =>
    have bb := behS_lt (n := n) (T := T) (l := l) h7
    rw [if_pos (show ¬ b2i true = 0 by decide), if_pos (show true = true from rfl), if_pos (show true = true from rfl), L_behind h4 hl h7, Option.bind_some]
    simp only [letb]
    refine ⟨ss σ 6 (nI (behS n T l m)), by rw [ss_self]; rfl, h1.of (ss_ne (by decide)) rfl, h2.same (ss_ne (by decide)) (ss_ne (by decide)) rfl, (ss_ne (by decide)).trans h3, ⟨⟨(ss_ne (by decide)).trans h4.1.1, h4.1.2⟩, h4.2.1, (ss_ne (by decide)).trans h4.2.2⟩, ?_, ss_self, bb⟩
    rcases h5 with q | q
    · exact Or.inl ((ss_ne (by decide)).trans q)
    · exact Or.inr ⟨(ss_ne (by decide)).trans q.1, q.2⟩
theorem X_markingCount_ok {m : Nat} (h : XI σ n T (some m)) : XOk (fn_X3_markingCount σ) n T (some m) (nI (ML n T).length) := by
  obtain ⟨σ1, e1, k1, hM⟩ := L_markingsFound h.1.1 h.2.2.2.1 h.2.2.2.2.1
  unfold fn_X3_markingCount bind2
  rw [X_needNet_ok h, Option.bind_some, e1, Option.bind_some]
  exact ⟨σ1, rfl, h.keepM k1 hM⟩
theorem X_isFaithful_ok {m : Nat} (hT : Sys n T) (h : XI σ n T (some m)) : XOk (fn_X3_isFaithful σ) n T (some m) (b2i (faithS n T)) := by
  unfold fn_X3_isFaithful
  rw [X_needNet_ok h, Option.bind_some, L_faith hT h.1.1 h.2.2.2.1, Option.bind_some, zr_b2i]
  exact ⟨σ, rfl, h⟩
end API
