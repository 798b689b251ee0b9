/-! 80: what regions are like: complements, differences, least ones; nets whose states are told apart and whose labels are prevented -/
def E0 (T : TT) (l a : Nat) : Prop := ∀ s t, T l s = some t → a.testBit s = a.testBit t
def E1 (T : TT) (l a : Nat) : Prop := ∀ s t, T l s = some t → a.testBit s = false ∧ a.testBit t = true
def E2 (T : TT) (l a : Nat) : Prop := ∀ s t, T l s = some t → a.testBit s = true ∧ a.testBit t = false
theorem way_cases {n : Nat} {T : TT} (hT : Sys n T) (l a : Nat) : (wayS T l a = 0 ∧ E0 T l a) ∨ (wayS T l a = 1 ∧ ¬ E0 T l a ∧ E1 T l a) ∨ (wayS T l a = 2 ∧ ¬ E0 T l a ∧ ¬ E1 T l a ∧ E2 T l a) ∨ (wayS T l a = 3 ∧ ¬ E0 T l a ∧ ¬ E1 T l a ∧ ¬ E2 T l a) := by
  have lt : ∀ s t, T l s = some t → s < 12 := fun s t e => by
    have := (hT.2.2 l s t e).2.1
    have := hT.2.1
    omega
  have a0 : allS T l (fun s t => a.testBit s == a.testBit t) = true ↔ E0 T l a :=
    ⟨fun h s t e => by have := allS_iff.mp h s (lt s t e) t e; simpa using this, fun h => allS_iff.mpr fun s _ t e => by simpa using h s t e⟩
  have a1 : allS T l (fun s t => !a.testBit s && a.testBit t) = true ↔ E1 T l a :=
    ⟨fun h s t e => by have := allS_iff.mp h s (lt s t e) t e; simpa using this, fun h => allS_iff.mpr fun s _ t e => by simpa using h s t e⟩
  have a2 : allS T l (fun s t => a.testBit s && !a.testBit t) = true ↔ E2 T l a :=
    ⟨fun h s t e => by have := allS_iff.mp h s (lt s t e) t e; simpa using this, fun h => allS_iff.mpr fun s _ t e => by simpa using h s t e⟩
  unfold wayS
  by_cases c0 : E0 T l a
  · exact Or.inl ⟨if_pos (a0.mpr c0), c0⟩
  · rw [if_neg (fun q => c0 (a0.mp q))]
    by_cases c1 : E1 T l a
    · exact Or.inr (Or.inl ⟨if_pos (a1.mpr c1), c0, c1⟩)
    · rw [if_neg (fun q => c1 (a1.mp q))]
      by_cases c2 : E2 T l a
      · exact Or.inr (Or.inr (Or.inl ⟨if_pos (a2.mpr c2), c0, c1, c2⟩))
      · exact Or.inr (Or.inr (Or.inr ⟨if_neg (fun q => c2 (a2.mp q)), c0, c1, c2⟩))
theorem way_0 {n : Nat} {T : TT} (hT : Sys n T) {l a : Nat} (h : E0 T l a) : wayS T l a = 0 := by
  rcases way_cases hT l a with w | w | w | w
  · exact w.1
  · exact absurd h w.2.1
  · exact absurd h w.2.1
  · exact absurd h w.2.1
theorem way_1 {n : Nat} {T : TT} (hT : Sys n T) {l a s t : Nat} (e : T l s = some t) (h : E1 T l a) : wayS T l a = 1 := by
  have n0 : ¬ E0 T l a := fun q => by have := q s t e; rw [(h s t e).1, (h s t e).2] at this; cases this
  rcases way_cases hT l a with w | w | w | w
  · exact absurd w.2 n0
  · exact w.1
  · exact absurd h w.2.2.1
  · exact absurd h w.2.2.1
theorem way_2 {n : Nat} {T : TT} (hT : Sys n T) {l a s t : Nat} (e : T l s = some t) (h : E2 T l a) : wayS T l a = 2 := by
  have n0 : ¬ E0 T l a := fun q => by have := q s t e; rw [(h s t e).1, (h s t e).2] at this; cases this
  have n1 : ¬ E1 T l a := fun q => by have := (q s t e).1; rw [(h s t e).1] at this; cases this
  rcases way_cases hT l a with w | w | w | w
  · exact absurd w.2 n0
  · exact absurd w.2.2 n1
  · exact w.1
  · exact absurd h w.2.2.2
theorem way_ne3 {n : Nat} {T : TT} (hT : Sys n T) {l a : Nat} : wayS T l a ≠ 3 ↔ E0 T l a ∨ E1 T l a ∨ E2 T l a := by
  constructor
  · intro h
    rcases way_cases hT l a with w | w | w | w
    · exact Or.inl w.2
    · exact Or.inr (Or.inl w.2.2)
    · exact Or.inr (Or.inr w.2.2.2)
    · exact absurd w.1 h
  · intro h q
    rcases way_cases hT l a with w | w | w | w
    · rw [w.1] at q; cases q
    · rw [w.1] at q; cases q
    · rw [w.1] at q; cases q
    · rcases h with h | h | h
      · exact w.2.1 h
      · exact w.2.2.1 h
      · exact w.2.2.2 h
/-- a label without steps, or with one -/
theorem step_or {T : TT} (l : Nat) : (∃ s t, T l s = some t) ∨ ∀ s t, T l s ≠ some t := by
  by_cases c : ∃ s t, T l s = some t
  · exact Or.inl c
  · exact Or.inr fun s t e => c ⟨s, t, e⟩
theorem reg_iff {n : Nat} {T : TT} {a : Nat} : isReg n T a = true ↔ 0 < a ∧ a < 2 ^ n - 1 ∧ ∀ l, l < 6 → wayS T l a ≠ 3 := by
  unfold isReg mixS
  rw [Bool.and_eq_true, Bool.and_eq_true, decide_eq_true_iff, decide_eq_true_iff, beq_iff_eq]
  constructor
  · rintro ⟨⟨h1, h2⟩, h3⟩
    refine ⟨h1, h2, fun l hl q => ?_⟩
    have := fnd_none h3 l hl
    rw [q] at this; cases this
  · rintro ⟨h1, h2, h3⟩
    exact ⟨⟨h1, h2⟩, fnd_of_none fun l hl => by simpa using h3 l hl⟩
/-! sets of states -/
def cmp (n a : Nat) : Nat := ndf (2 ^ n - 1) a
theorem cmp_bit (n a k : Nat) : (cmp n a).testBit k = (decide (k < n) && !a.testBit k) := by rw [cmp, ndf_bit, Nat.testBit_two_pow_sub_one]
theorem pos_of_bit {a k : Nat} (h : a.testBit k = true) : 0 < a := by
  rcases Nat.eq_zero_or_pos a with e | e
  · rw [e, Nat.zero_testBit] at h; cases h
  · exact e
theorem pos_bit {a n : Nat} (h : 0 < a) (h2 : a < 2 ^ n) : ∃ k, k < n ∧ a.testBit k = true := by
  rcases Classical.em (∃ k, k < n ∧ a.testBit k = true) with c | c
  · exact c
  · exfalso
    have : a = 0 := Nat.eq_of_testBit_eq fun k => by
      rw [Nat.zero_testBit]
      rcases Nat.lt_or_ge k n with g | g
      · exact Bool.eq_false_iff.mpr fun q => c ⟨k, g, q⟩
      · exact bit_hi h2 g
    omega
theorem lt_full {a n : Nat} (h : a < 2 ^ n - 1) : ∃ k, k < n ∧ a.testBit k = false := by
  rcases Classical.em (∃ k, k < n ∧ a.testBit k = false) with c | c
  · exact c
  · exfalso
    have : a = 2 ^ n - 1 := Nat.eq_of_testBit_eq fun k => by
      rw [Nat.testBit_two_pow_sub_one]
      rcases Nat.lt_or_ge k n with g | g
      · rw [decide_eq_true g]
        cases e : a.testBit k with
        | true => rfl
        | false => exact absurd ⟨k, g, e⟩ c
      · rw [decide_eq_false (Nat.not_lt.mpr g)]
        exact bit_hi (n := n) (by omega) g
    omega
theorem in_full {a n k : Nat} (h : a < 2 ^ n) (hk : k < n) (hb : a.testBit k = false) : a < 2 ^ n - 1 := by
  rcases Nat.lt_or_ge a (2 ^ n - 1) with g | g
  · exact g
  · have : a = 2 ^ n - 1 := by omega
    rw [this, Nat.testBit_two_pow_sub_one, decide_eq_true hk] at hb
    cases hb
theorem cmp_lt (n a : Nat) : cmp n a < 2 ^ n := ndf_lt (by have := Nat.two_pow_pos n; omega)
theorem cmp_reg {n : Nat} {T : TT} (hT : Sys n T) {a : Nat} (h : isReg n T a = true) : isReg n T (cmp n a) = true := by
  obtain ⟨h1, h2, h3⟩ := reg_iff.mp h
  obtain ⟨k1, g1, b1⟩ := pos_bit (n := n) h1 (by omega)
  obtain ⟨k2, g2, b2⟩ := lt_full h2
  refine reg_iff.mpr ⟨pos_of_bit (k := k2) (by rw [cmp_bit, b2, decide_eq_true g2]; rfl), in_full (cmp_lt n a) g1 (by rw [cmp_bit, b1]; simp), fun l hl => ?_⟩
  rw [way_ne3 hT]
  have lt : ∀ s t, T l s = some t → s < n ∧ t < n := fun s t e => (hT.2.2 l s t e).2
  rcases (way_ne3 hT).mp (h3 l hl) with c | c | c
  · exact Or.inl fun s t e => by rw [cmp_bit, cmp_bit, decide_eq_true (lt s t e).1, decide_eq_true (lt s t e).2, c s t e]
  · exact Or.inr (Or.inr fun s t e => by rw [cmp_bit, cmp_bit, decide_eq_true (lt s t e).1, decide_eq_true (lt s t e).2, (c s t e).1, (c s t e).2]; exact ⟨rfl, rfl⟩)
  · exact Or.inr (Or.inl fun s t e => by rw [cmp_bit, cmp_bit, decide_eq_true (lt s t e).1, decide_eq_true (lt s t e).2, (c s t e).1, (c s t e).2]; exact ⟨rfl, rfl⟩)
theorem cmp_way {n : Nat} {T : TT} (hT : Sys n T) {l a : Nat} (h : wayS T l a ≠ 3) : wayS T l (cmp n a) = if wayS T l a = 0 then 0 else 3 - wayS T l a := by
  have lt : ∀ s t, T l s = some t → s < n ∧ t < n := fun s t e => (hT.2.2 l s t e).2
  rcases step_or (T := T) l with ⟨s0, t0, e0⟩ | hno
  · rcases way_cases hT l a with w | w | w | w
    · rw [w.1]
      exact way_0 hT fun s t e => by rw [cmp_bit, cmp_bit, decide_eq_true (lt s t e).1, decide_eq_true (lt s t e).2, w.2 s t e]
    · rw [w.1]
      exact way_2 hT e0 fun s t e => by rw [cmp_bit, cmp_bit, decide_eq_true (lt s t e).1, decide_eq_true (lt s t e).2, (w.2.2 s t e).1, (w.2.2 s t e).2]; exact ⟨rfl, rfl⟩
    · rw [w.1]
      exact way_1 hT e0 fun s t e => by rw [cmp_bit, cmp_bit, decide_eq_true (lt s t e).1, decide_eq_true (lt s t e).2, (w.2.2.2 s t e).1, (w.2.2.2 s t e).2]; exact ⟨rfl, rfl⟩
    · exact absurd w.1 h
  · rw [way_0 hT (fun s t e => absurd e (hno s t)), way_0 hT (a := a) (fun s t e => absurd e (hno s t))]; rfl
/-- a region without a part of it that is one: a region, or nothing -/
theorem dif_reg {n : Nat} {T : TT} (hT : Sys n T) {r m : Nat} (hr : isReg n T r = true) (hm : isReg n T m = true) (hs : sub m r = true) (h0 : ndf r m ≠ 0) : isReg n T (ndf r m) = true := by
  obtain ⟨r1, r2, r3⟩ := reg_iff.mp hr
  obtain ⟨-, -, m3⟩ := reg_iff.mp hm
  obtain ⟨k2, g2, b2⟩ := lt_full r2
  refine reg_iff.mpr ⟨Nat.pos_of_ne_zero h0, in_full (ndf_lt (by omega)) g2 (by rw [ndf_bit, b2]; rfl), fun l hl => ?_⟩
  rw [way_ne3 hT]
  have S := sub_iff.mp hs
  have imp : ∀ k, m.testBit k = true → r.testBit k = true := fun k => S k
  rcases (way_ne3 hT).mp (r3 l hl) with c | c | c <;> rcases (way_ne3 hT).mp (m3 l hl) with d | d | d
  · exact Or.inl fun s t e => by rw [ndf_bit, ndf_bit, c s t e, d s t e]
  · refine Or.inr (Or.inr fun s t e => ?_)
    have q1 := d s t e
    have q2 := imp t q1.2
    rw [ndf_bit, ndf_bit, c s t e, q1.1, q1.2, q2]; exact ⟨rfl, rfl⟩
  · refine Or.inr (Or.inl fun s t e => ?_)
    have q1 := d s t e
    have q2 := imp s q1.1
    rw [ndf_bit, ndf_bit, ← c s t e, q1.1, q1.2, q2]; exact ⟨rfl, rfl⟩
  · refine Or.inr (Or.inl fun s t e => ?_)
    have q1 := c s t e
    have q3 : m.testBit s = false := Bool.eq_false_iff.mpr fun q => by have := imp s q; rw [q1.1] at this; cases this
    rw [ndf_bit, ndf_bit, ← d s t e, q1.1, q1.2, q3]; exact ⟨rfl, rfl⟩
  · exact Or.inl fun s t e => by rw [ndf_bit, ndf_bit, (c s t e).1, (c s t e).2, (d s t e).1, (d s t e).2]; rfl
  · exact Or.inl fun s t e => by have := imp s (d s t e).1; rw [(c s t e).1] at this; cases this
  · refine Or.inr (Or.inr fun s t e => ?_)
    have q1 := c s t e
    have q3 : m.testBit t = false := Bool.eq_false_iff.mpr fun q => by have := imp t q; rw [q1.2] at this; cases this
    rw [ndf_bit, ndf_bit, d s t e, q1.1, q1.2, q3]; exact ⟨rfl, rfl⟩
  · exact Or.inl fun s t e => by have := imp t (d s t e).2; rw [(c s t e).2] at this; cases this
  · exact Or.inl fun s t e => by rw [ndf_bit, ndf_bit, (c s t e).1, (c s t e).2, (d s t e).1, (d s t e).2]; rfl
/-! taking away least regions, one after the other -/
def lft (n : Nat) (T : TT) (a : Nat) : Nat → Nat
  | 0 => a
  | j + 1 => if leastS n T j && sub (rg n T j) (lft n T a j) then ndf (lft n T a j) (rg n T j) else lft n T a j
abbrev RN (n : Nat) (T : TT) : Nat := (RgL n T).length
theorem rg_reg {n : Nat} {T : TT} {k : Nat} (hk : k < RN n T) : isReg n T (rg n T k) = true := RgL_mem.mp (rg_mem hk)
theorem rg_at {n : Nat} {T : TT} {a : Nat} (h : isReg n T a = true) : ∃ k, k < RN n T ∧ rg n T k = a := by
  obtain ⟨k, hk, e⟩ := List.getElem_of_mem (RgL_mem.mpr h)
  exact ⟨k, hk, by rw [rg, List.getD_eq_getElem?_getD, List.getElem?_eq_getElem hk]; exact e⟩
theorem lft_inv {n : Nat} {T : TT} (hT : Sys n T) {a : Nat} (h : isReg n T a = true) : ∀ k, k ≤ RN n T → lft n T a k = 0 ∨ isReg n T (lft n T a k) = true
  | 0, _ => Or.inr h
  | k + 1, hk => by
    rw [lft]
    by_cases c : (leastS n T k && sub (rg n T k) (lft n T a k)) = true
    · rw [if_pos c]
      rw [Bool.and_eq_true] at c
      rcases lft_inv hT h k (by omega) with g | g
      · exact Or.inl (by rw [g]; simp [ndf])
      · by_cases z : ndf (lft n T a k) (rg n T k) = 0
        · exact Or.inl z
        · exact Or.inr (dif_reg hT g (rg_reg (by omega)) c.2 z)
    · rw [if_neg c]
      exact lft_inv hT h k (by omega)
theorem sub_rf (a : Nat) : sub a a = true := sub_iff.mpr fun _ h => h
theorem ndf_sub (a b : Nat) : sub (ndf a b) a = true := sub_iff.mpr fun t h => by
  rw [ndf_bit, Bool.and_eq_true] at h
  exact h.1
theorem lft_sub {n : Nat} {T : TT} {a k : Nat} : ∀ d, sub (lft n T a (k + d)) (lft n T a k) = true
  | 0 => sub_rf _
  | d + 1 => by
    rw [← Nat.add_assoc, lft]
    split
    · exact sub_trans (ndf_sub _ _) (lft_sub d)
    · exact lft_sub d
theorem least_in {n : Nat} {T : TT} {a : Nat} (h : isReg n T a = true) : ∃ j, j < RN n T ∧ leastS n T j = true ∧ sub (rg n T j) a = true := by
  obtain ⟨k, hk, e⟩ := rg_at h
  cases c : leastS n T k with
  | true => exact ⟨k, hk, c, by rw [e]; exact sub_rf a⟩
  | false =>
    obtain ⟨b, hb, hs⟩ := least_hold.mpr c
    obtain ⟨j, h1, h2, h3⟩ := pT_mem.mp hb
    exact ⟨j, by omega, h2, by rw [h3, ← e]; exact hs⟩
theorem lft_end {n : Nat} {T : TT} (hT : Sys n T) {a : Nat} (h : isReg n T a = true) : lft n T a (RN n T) = 0 := by
  rcases lft_inv hT h (RN n T) (Nat.le_refl _) with g | g
  · exact g
  · exfalso
    obtain ⟨j, hj, hl, hs⟩ := least_in g
    have s1 : sub (lft n T a (RN n T)) (lft n T a j) = true := by
      have := lft_sub (n := n) (T := T) (a := a) (k := j) (RN n T - j)
      rwa [show j + (RN n T - j) = RN n T by omega] at this
    have s2 : sub (lft n T a (RN n T)) (lft n T a (j + 1)) = true := by
      have := lft_sub (n := n) (T := T) (a := a) (k := j + 1) (RN n T - (j + 1))
      rwa [show j + 1 + (RN n T - (j + 1)) = RN n T by omega] at this
    have e : lft n T a (j + 1) = ndf (lft n T a j) (rg n T j) := by
      rw [lft, if_pos (by rw [hl, sub_trans hs s1]; rfl)]
    obtain ⟨h1, h2, -⟩ := isReg_lt hT (rg_reg hj)
    obtain ⟨k, -, b⟩ := pos_bit h1 h2
    have q := sub_iff.mp (sub_trans hs s2) k b
    rw [e, ndf_bit, b] at q
    simp at q
theorem lft_apart {n : Nat} {T : TT} {a x y : Nat} (h : a.testBit x ≠ a.testBit y) : ∀ k, (∃ j, j < k ∧ leastS n T j = true ∧ (rg n T j).testBit x ≠ (rg n T j).testBit y) ∨ (lft n T a k).testBit x ≠ (lft n T a k).testBit y
  | 0 => Or.inr h
  | k + 1 => by
    rcases lft_apart h k with ⟨j, h1, h2, h3⟩ | g
    · exact Or.inl ⟨j, by omega, h2, h3⟩
    · rw [lft]
      by_cases c : (leastS n T k && sub (rg n T k) (lft n T a k)) = true
      · rw [if_pos c]
        rw [Bool.and_eq_true] at c
        by_cases e : (rg n T k).testBit x = (rg n T k).testBit y
        · refine Or.inr ?_
          rw [ndf_bit, ndf_bit, e]
          cases b : (rg n T k).testBit y with
          | false => simpa using g
          | true =>
            have q1 := sub_iff.mp c.2 y b
            have q2 := sub_iff.mp c.2 x (by rw [e, b])
            rw [q1, q2] at g
            exact absurd rfl g
        · exact Or.inl ⟨k, by omega, c.1, e⟩
      · rw [if_neg c]; exact Or.inr g
theorem lft_out {n : Nat} {T : TT} {a x y z : Nat} (h : a.testBit x = true ∧ a.testBit y = false ∧ a.testBit z = false) : ∀ k, (∃ j, j < k ∧ leastS n T j = true ∧ (rg n T j).testBit x = true ∧ (rg n T j).testBit y = false ∧ (rg n T j).testBit z = false) ∨ ((lft n T a k).testBit x = true ∧ (lft n T a k).testBit y = false ∧ (lft n T a k).testBit z = false)
  | 0 => Or.inr h
  | k + 1 => by
    rcases lft_out h k with ⟨j, h1, h2⟩ | ⟨g1, g2, g3⟩
    · exact Or.inl ⟨j, by omega, h2⟩
    · rw [lft]
      by_cases c : (leastS n T k && sub (rg n T k) (lft n T a k)) = true
      · rw [if_pos c]
        rw [Bool.and_eq_true] at c
        have S := sub_iff.mp c.2
        have n2 : (rg n T k).testBit y = false := Bool.eq_false_iff.mpr fun q => by have := S y q; rw [g2] at this; cases this
        have n3 : (rg n T k).testBit z = false := Bool.eq_false_iff.mpr fun q => by have := S z q; rw [g3] at this; cases this
        cases b : (rg n T k).testBit x with
        | true => exact Or.inl ⟨k, by omega, c.1, b, n2, n3⟩
        | false => exact Or.inr (by rw [ndf_bit, ndf_bit, ndf_bit, g1, g2, g3, b]; exact ⟨rfl, rfl, rfl⟩)
      · rw [if_neg c]; exact Or.inr ⟨g1, g2, g3⟩
/-! growing a region -/
theorem grow_reg {n : Nat} {T : TT} {a : Nat} (h : isReg n T a = true) : growK T a 12 = a := by
  have hm : mixS T a = none := by
    unfold isReg at h
    rw [Bool.and_eq_true, beq_iff_eq] at h
    exact h.2
  exact growK_fix (T := T) (a := a) (k := 0) hm 12
/-! the regions' order -/
theorem RT_asc {n : Nat} {T : TT} : ∀ m, (RT n T m).Pairwise (· < ·) := fun m => by
  unfold RT
  exact List.Pairwise.filter _ (List.pairwise_lt_range (n := m))
theorem rg_asc {n : Nat} {T : TT} {k : Nat} (hk : k + 1 < RN n T) : rg n T k < rg n T (k + 1) := by
  have h := List.pairwise_iff_getElem.mp (RT_asc (n := n) (T := T) (2 ^ n - 1)) k (k + 1) (by unfold RN RgL at hk; omega) hk (by omega)
  unfold rg
  rw [List.getD_eq_getElem?_getD, List.getD_eq_getElem?_getD, List.getElem?_eq_getElem (show k < (RgL n T).length from Nat.lt_of_succ_lt hk), List.getElem?_eq_getElem hk]
  exact h
/-! the net's places -/
/-- how many of the first k regions are least -/
def lsN (n : Nat) (T : TT) (k : Nat) : Nat := (pT n T k).length
theorem lsN_succ (n : Nat) (T : TT) (k : Nat) : lsN n T (k + 1) = lsN n T k + if leastS n T k then 1 else 0 := by
  unfold lsN
  rw [pT_succ]
  split
  · rw [List.length_append]; rfl
  · rfl
theorem PL_min (n : Nat) (T : TT) : (PL n T).length = min 30 (lsN n T (RN n T)) := by
  unfold PL lsN
  rw [List.length_take]
theorem pl_at {n : Nat} {T : TT} (h30 : lsN n T (RN n T) ≤ 30) {j : Nat} (hj : j < RN n T) (hl : leastS n T j = true) : ∃ p, p < (PL n T).length ∧ pg n T p = rg n T j := by
  have e : PL n T = pT n T (RN n T) := List.take_of_length_le h30
  have hm : rg n T j ∈ PL n T := by rw [e]; exact pT_mem.mpr ⟨j, hj, hl, rfl⟩
  obtain ⟨p, hp, q⟩ := List.getElem_of_mem hm
  exact ⟨p, hp, by rw [pg, List.getD_eq_getElem?_getD, List.getElem?_eq_getElem hp]; exact q⟩
theorem with_ne {n : Nat} {T : TT} {a b p : Nat} (hp : p < (PL n T).length) (h : (pg n T p).testBit a ≠ (pg n T p).testBit b) : withS n T a ≠ withS n T b := fun e => by
  have := congrArg (fun x => x.testBit p) e
  unfold withS at this
  simp only [mask_bit, decide_eq_true hp, Bool.true_and] at this
  exact h this
theorem src_step {T : TT} {l : Nat} (h : src T l (fun _ => true) ≠ 0) : ∃ s t, T l s = some t := by
  rcases step_or (T := T) l with c | c
  · exact c
  · exfalso
    refine h (Nat.eq_of_testBit_eq fun k => ?_)
    unfold src
    rw [mask_bit, Nat.zero_testBit]
    cases e : T l k with
    | none => simp [tob]
    | some t => exact absurd e (c k t)
theorem step_src {n : Nat} {T : TT} (hT : Sys n T) {l s t : Nat} (e : T l s = some t) : src T l (fun _ => true) ≠ 0 := fun q => by
  have := congrArg (fun x => x.testBit s) q
  have h1 := (hT.2.2 l s t e).2.1
  have h2 := hT.2.1
  unfold src at this
  simp only [mask_bit, Nat.zero_testBit, e, tob, decide_eq_true (show s < 12 by omega)] at this
  cases this
theorem can_yes {n : Nat} {T : TT} (hT : Sys n T) {l s t : Nat} (e : T l s = some t) : canS n T l (withS n T s) = true := by
  have hl := (hT.2.2 l s t e).1
  unfold canS
  rw [Bool.and_eq_true, Bool.and_eq_true]
  refine ⟨⟨by simpa using step_src hT e, ?_⟩, ?_⟩
  · rw [beq_iff_eq]
    refine Nat.eq_of_testBit_eq fun p => ?_
    unfold withS crossS
    rw [Nat.testBit_and, mask_bit, mask_bit]
    by_cases hp : p < (PL n T).length
    · rw [decide_eq_true hp, Bool.true_and, Bool.true_and]
      rcases way_step hT e (pg_way hp hl) with ⟨w, -⟩ | ⟨w, -, -⟩ | ⟨w, b, -⟩
      · rw [w]; simp
      · rw [w]; simp
      · rw [w, b]; rfl
    · rw [decide_eq_false hp]; rfl
  · rw [beq_iff_eq]
    refine Nat.eq_of_testBit_eq fun p => ?_
    unfold withS crossS
    rw [Nat.testBit_and, mask_bit, mask_bit, Nat.zero_testBit]
    by_cases hp : p < (PL n T).length
    · rw [decide_eq_true hp, Bool.true_and, Bool.true_and]
      rcases way_step hT e (pg_way hp hl) with ⟨w, -⟩ | ⟨w, b, -⟩ | ⟨w, -, -⟩
      · rw [w]; simp
      · rw [w, b]; rfl
      · rw [w]; simp
    · rw [decide_eq_false hp]; rfl
theorem can_no {n : Nat} {T : TT} {l s p : Nat} (hp : p < (PL n T).length) (hw : wayS T l (pg n T p) = 2) (hb : (pg n T p).testBit s = false) : canS n T l (withS n T s) = false := by
  rw [Bool.eq_false_iff]
  intro h
  unfold canS at h
  rw [Bool.and_eq_true, Bool.and_eq_true] at h
  have q := congrArg (fun x => x.testBit p) (beq_iff_eq.mp h.1.2)
  unfold withS crossS at q
  simp only [Nat.testBit_and, mask_bit, decide_eq_true hp, Bool.true_and, hw, hb] at q
  cases q
/-! all states told apart, all labels prevented -/
theorem apart_all {n : Nat} {T : TT} (h : lumpS n T = 0) {a b : Nat} (ha : a < n) (hb : b < a) : apartS n T a b ≠ none := by
  unfold lumpS at h
  have h1 := sumN_zero.mp (sumN_zero.mp h a ha) b (by omega)
  have h2 := (b2n0 _).mp h1
  rw [decide_eq_true hb, Bool.true_and] at h2
  intro q
  unfold sameP at h2
  rw [q] at h2
  cases h2
theorem apart_ne {n : Nat} {T : TT} (hT : Sys n T) (h30 : lsN n T (RN n T) ≤ 30) {a b : Nat} (h : apartS n T a b ≠ none) : withS n T a ≠ withS n T b := by
  unfold apartS at h
  cases e : fnd (RN n T) fun k => (rg n T k).testBit a != (rg n T k).testBit b with
  | none => exact absurd e h
  | some k =>
    obtain ⟨h1, h2, -⟩ := fnd_some e
    have h3 : (rg n T k).testBit a ≠ (rg n T k).testBit b := by simpa using h2
    rcases lft_apart (n := n) (T := T) h3 (RN n T) with ⟨j, g1, g2, g3⟩ | g
    · obtain ⟨p, hp, q⟩ := pl_at h30 g1 g2
      exact with_ne hp (by rw [q]; exact g3)
    · rw [lft_end hT (rg_reg h1), Nat.zero_testBit, Nat.zero_testBit] at g
      exact absurd rfl g
theorem leak_all {n : Nat} {T : TT} (h : leakS n T = 0) {l s : Nat} (hl : l < 6) (hs : s < 12) : leakP n T s l = false := by
  unfold leakS at h
  exact (b2n0 _).mp (sumN_zero.mp (sumN_zero.mp h l hl) s hs)
theorem can_out {n : Nat} {T : TT} (hT : Sys n T) (h30 : lsN n T (RN n T) ≤ 30) {r l s s0 t0 : Nat} (hl : l < 6) (hr : isReg n T r = true) (e : T l s0 = some t0) (h1 : r.testBit s0 = true) (h2 : r.testBit t0 = false) (h3 : r.testBit s = false) : canS n T l (withS n T s) = false := by
  rcases lft_out (n := n) (T := T) (a := r) ⟨h1, h2, h3⟩ (RN n T) with ⟨j, g1, g2, b1, b2, b3⟩ | g
  · obtain ⟨p, hp, q⟩ := pl_at h30 g1 g2
    refine can_no hp ?_ (by rw [q]; exact b3)
    rcases way_step hT e (pg_way hp hl) with ⟨-, w⟩ | ⟨-, w, -⟩ | ⟨w, -, -⟩
    · rw [q, b1, b2] at w; cases w
    · rw [q, b1] at w; cases w
    · exact w
  · rw [lft_end hT hr, Nat.zero_testBit] at g
    cases g.1
theorem can_eq {n : Nat} {T : TT} (hT : Sys n T) (hk : leakS n T = 0) (h30 : lsN n T (RN n T) ≤ 30) {l s : Nat} (hl : l < 6) (hs : s < n) : canS n T l (withS n T s) = hasS T l s := by
  unfold hasS
  cases e : T l s with
  | some t => rw [can_yes hT e]; rfl
  | none =>
    show _ = false
    by_cases c : src T l (fun _ => true) = 0
    · unfold canS
      rw [c]; rfl
    · have hn := hT.2.1
      have h := leak_all hk hl (show s < 12 by omega)
      have ha : askP n T s l = true := by
        unfold askP stopS
        rw [if_neg c, mask_bit, decide_eq_true (show s < 12 by omega), decide_eq_true hs, e]; rfl
      unfold leakP at h
      rw [ha, Bool.true_and] at h
      unfold prevS at h
      obtain ⟨s0, t0, e0⟩ := src_step c
      have lt0 := (hT.2.2 l s0 t0 e0).2
      cases ep : fnd (RN n T) fun k => prevP T (rg n T k) s l with
      | none => rw [show fnd (RgL n T).length (fun k => prevP T (rg n T k) s l) = none from ep] at h; cases h
      | some k =>
        obtain ⟨h1, h2, -⟩ := fnd_some ep
        have hr := rg_reg h1
        have w3 := (reg_iff.mp hr).2.2 l hl
        unfold prevP at h2
        cases b : (rg n T k).testBit s with
        | true =>
          rw [b, if_pos rfl] at h2
          have hw : wayS T l (rg n T k) = 1 := by simpa using h2
          rcases way_step hT e0 w3 with ⟨w, -⟩ | ⟨-, b1, b2⟩ | ⟨w, -, -⟩
          · rw [hw] at w; cases w
          · exact can_out hT h30 hl (cmp_reg hT hr) e0 (by rw [cmp_bit, b1, decide_eq_true lt0.1]; rfl) (by rw [cmp_bit, b2]; simp) (by rw [cmp_bit, b]; simp)
          · rw [hw] at w; cases w
        | false =>
          rw [b, if_neg (by decide)] at h2
          have hw : wayS T l (rg n T k) = 2 := by simpa using h2
          rcases way_step hT e0 w3 with ⟨w, -⟩ | ⟨w, -, -⟩ | ⟨-, b1, b2⟩
          · rw [hw] at w; cases w
          · rw [hw] at w; cases w
          · exact can_out hT h30 hl hr e0 b1 b2 b
theorem faith_pure {n : Nat} {T : TT} (hT : Sys n T) (hl : lumpS n T = 0) (hk : leakS n T = 0) (h30 : lsN n T (RN n T) ≤ 30) : faithS n T = true :=
  faith_yes (fun s hs l hl => can_eq hT hk h30 hl (rch_lt_n hT hs)) (fun s' hs' _ o ho _ => (apart_ne hT h30 (apart_all hl hs' ho)).symm)
