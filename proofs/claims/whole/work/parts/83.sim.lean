/-! 83: class and reference answer alike, call by call -/
def cvI (v : Int32) : Int64 := v.toInt64
def cvB (v : Int32) : Int64 := if v = 0 then 0 else 1
def SimR (WO : (Int32 ⊕ String) → Int64 → Int32 → Int64 → Prop) (cv : Int32 → Int64) (oX : Option ((Int32 ⊕ String) × SX)) (oM : Option (Int32 × SX)) (z : Int64) : Prop := ∃ R σ' kk z' v τ' n T mk, oX = some (R, σ') ∧ WO R z kk z' ∧ oM = some (v, τ') ∧ Sys n T ∧ XI σ' n T mk ∧ MI τ' n T mk ∧ τ'.1 0 = kk ∧ (kk = 0 → z' = cv v)
theorem sim_ok {WO : (Int32 ⊕ String) → Int64 → Int32 → Int64 → Prop} {cv : Int32 → Int64} {oX : Option ((Int32 ⊕ String) × SX)} {oM : Option (Int32 × SX)} {z : Int64} {n : Nat} {T : TT} {mk : Option Nat} {r : Int32} (hw : ∀ r z, WO (.inl r) z 0 (cv r)) (hT : Sys n T) (hX : XOk oX n T mk r) (hM : MOk oM n T mk r) : SimR WO cv oX oM z := by
  obtain ⟨σ', e1, i1⟩ := hX
  obtain ⟨τ', e2, i2, t⟩ := hM
  exact ⟨.inl r, σ', 0, cv r, r, τ', n, T, mk, e1, hw r z, e2, hT, i1, i2, t, fun _ => rfl⟩
theorem sim_bad {WO : (Int32 ⊕ String) → Int64 → Int32 → Int64 → Prop} {cv : Int32 → Int64} {oX : Option ((Int32 ⊕ String) × SX)} {oM : Option (Int32 × SX)} {z : Int64} {n : Nat} {T : TT} {mk : Option Nat} {e : String} {kk : Int32} (hw : ∀ z, WO (.inr e) z kk z) (hk : kk ≠ 0) (hT : Sys n T) (hX : XBad oX n T mk e) (hM : MBad oM n T mk kk) : SimR WO cv oX oM z := by
  obtain ⟨σ', e1, i1⟩ := hX
  obtain ⟨v, τ', e2, i2, t⟩ := hM
  exact ⟨.inr e, σ', kk, z, v, τ', n, T, mk, e1, hw z, e2, hT, i1, i2, t, fun h => absurd h hk⟩
theorem w1o {c : String} : ∀ r z, WO1 c (.inl r) z 0 (cvI r) := fun r z => Or.inl ⟨r, rfl, rfl, rfl⟩
theorem w1b {c : String} : ∀ z, WO1 c (.inr c) z 1 z := fun z => Or.inr ⟨rfl, rfl, rfl⟩
theorem w2o {c d : String} : ∀ r z, WO2 c d (.inl r) z 0 (cvI r) := fun r z => Or.inl ⟨r, rfl, rfl, rfl⟩
theorem w2b {c d : String} : ∀ z, WO2 c d (.inr c) z 1 z := fun z => Or.inr (Or.inl ⟨rfl, rfl, rfl⟩)
theorem w2c {c d : String} : ∀ z, WO2 c d (.inr d) z 2 z := fun z => Or.inr (Or.inr ⟨rfl, rfl, rfl⟩)
theorem wbo {c : String} : ∀ r z, WOb c (.inl r) z 0 (cvB r) := fun r z => Or.inl ⟨r, rfl, rfl, rfl⟩
theorem wbb {c : String} : ∀ z, WOb c (.inr c) z 1 z := fun z => Or.inr ⟨rfl, rfl, rfl⟩
theorem ne10 : (1 : Int32) ≠ 0 := by decide
theorem ne20 : (2 : Int32) ≠ 0 := by decide
section SIM
variable {σ τ : SX} {n : Nat} {T : TT} {mk : Option Nat} {z : Int64}
theorem sim_addState (hT : Sys n T) (h : XI σ n T mk) (g : MI τ n T mk) : SimR (WO1 exS) cvI (fn_X3_addState σ) (fn_X4_addState τ) z := by
  by_cases c : n < 12
  · exact sim_ok w1o (hT.succ c) (X_addState_ok hT h c) (M_addState_ok hT g c)
  · have e : n = 12 := by have := hT.2.1; omega
    exact sim_bad w1b ne10 hT (X_addState_bad h e) (M_addState_bad g e)
theorem sim_step (hT : Sys n T) (h : XI σ n T mk) (g : MI τ n T mk) (x y w : Int32) : SimR (WO1 exI) cvI (fn_X3_step σ x y w) (fn_X4_step τ x y w) z := by
  have hn := hT.2.1
  rcases ok_bad n x (by omega) with c | ⟨s, hs, rfl⟩
  · exact sim_bad w1b ne10 hT (X_step_bad hT h (Or.inl c)) (M_step_bad hT g (Or.inl c))
  rcases ok_bad 6 y (by omega) with c | ⟨l, hl, rfl⟩
  · exact sim_bad w1b ne10 hT (X_step_bad hT h (Or.inr (Or.inl c))) (M_step_bad hT g (Or.inr (Or.inl c)))
  rcases ok_bad n w (by omega) with c | ⟨t, ht, rfl⟩
  · exact sim_bad w1b ne10 hT (X_step_bad hT h (Or.inr (Or.inr c))) (M_step_bad hT g (Or.inr (Or.inr c)))
  exact sim_ok w1o (hT.upT hl hs (fun u hu => by cases hu; exact ht)) (X_step_ok hT h hs hl ht) (M_step_ok hT g hs hl ht)
theorem sim_rename (hT : Sys n T) (h : XI σ n T mk) (g : MI τ n T mk) (x y : Int32) : SimR (WO2 exI exS) cvI (fn_X3_rename σ x y) (fn_X4_rename τ x y) z := by
  rcases ok_bad 6 x (by omega) with c | ⟨a, ha, rfl⟩
  · exact sim_bad w2b ne10 hT (X_rename_bad h (Or.inl c)) (M_rename_bad hT g (Or.inl c))
  rcases ok_bad 6 y (by omega) with c | ⟨b, hb, rfl⟩
  · exact sim_bad w2b ne10 hT (X_rename_bad h (Or.inr c)) (M_rename_bad hT g (Or.inr c))
  by_cases e : a = b
  · exact sim_ok w2o (renS_sys hT hb) (X_rename_ok hT h ha hb (Or.inl e)) (M_rename_ok hT g ha hb (Or.inl e))
  cases c : bothS T a b n with
  | false => exact sim_ok w2o (renS_sys hT hb) (X_rename_ok hT h ha hb (Or.inr c)) (M_rename_ok hT g ha hb (Or.inr c))
  | true => exact sim_bad w2c ne20 hT (X_rename_both hT h ha hb e c) (M_rename_both hT g ha hb e c)
theorem sim_crossing (hT : Sys n T) (h : XI σ n T mk) (g : MI τ n T mk) (x y : Int32) : SimR (WO2 exA exI) cvI (fn_X3_crossing σ x y) (fn_X4_crossing τ x y) z := by
  have := p12 hT
  rcases ok_bad (2 ^ n) x (by omega) with c | ⟨a, ha, rfl⟩
  · exact sim_bad w2b ne10 hT (X_crossing_bad1 hT h c) (M_crossing_bad1 hT g c)
  rcases ok_bad 6 y (by omega) with c | ⟨l, hl, rfl⟩
  · exact sim_bad w2c ne20 hT (X_crossing_bad2 hT h ha c) (M_crossing_bad2 hT g ha c)
  exact sim_ok w2o hT (X_crossing_ok hT h ha hl) (M_crossing_ok hT g ha hl)
theorem sim_unstep (hT : Sys n T) (h : XI σ n T mk) (g : MI τ n T mk) (x y : Int32) : SimR (WOb exI) cvB (fn_X3_unstep σ x y) (fn_X4_unstep τ x y) z := by
  have hn := hT.2.1
  rcases ok_bad n x (by omega) with c | ⟨s, hs, rfl⟩
  · exact sim_bad wbb ne10 hT (X_unstep_bad hT h (Or.inl c)) (M_unstep_bad hT g (Or.inl c))
  rcases ok_bad 6 y (by omega) with c | ⟨l, hl, rfl⟩
  · exact sim_bad wbb ne10 hT (X_unstep_bad hT h (Or.inr c)) (M_unstep_bad hT g (Or.inr c))
  exact sim_ok wbo (hT.upT hl hs (fun u hu => by cases hu)) (X_unstep_ok hT h hs hl) (M_unstep_ok hT g hs hl)
theorem sim_target (hT : Sys n T) (h : XI σ n T mk) (g : MI τ n T mk) (x y : Int32) : SimR (WO1 exI) cvI (fn_X3_target σ x y) (fn_X4_target τ x y) z := by
  have hn := hT.2.1
  rcases ok_bad n x (by omega) with c | ⟨s, hs, rfl⟩
  · exact sim_bad w1b ne10 hT (X_target_bad hT h (Or.inl c)) (M_target_bad hT g (Or.inl c))
  rcases ok_bad 6 y (by omega) with c | ⟨l, hl, rfl⟩
  · exact sim_bad w1b ne10 hT (X_target_bad hT h (Or.inr c)) (M_target_bad hT g (Or.inr c))
  exact sim_ok w1o hT (X_target_ok hT h hs hl) (M_target_ok hT g hs hl)
theorem sim_preventer (hT : Sys n T) (h : XI σ n T mk) (g : MI τ n T mk) (x y : Int32) : SimR (WO1 exI) cvI (fn_X3_preventer σ x y) (fn_X4_preventer τ x y) z := by
  have hn := hT.2.1
  rcases ok_bad n x (by omega) with c | ⟨s, hs, rfl⟩
  · exact sim_bad w1b ne10 hT (X_preventer_bad hT h (Or.inl c)) (M_preventer_bad hT g (Or.inl c))
  rcases ok_bad 6 y (by omega) with c | ⟨l, hl, rfl⟩
  · exact sim_bad w1b ne10 hT (X_preventer_bad hT h (Or.inr c)) (M_preventer_bad hT g (Or.inr c))
  exact sim_ok w1o hT (X_preventer_ok hT h hs hl) (M_preventer_ok hT g hs hl)
theorem sim_apart (hT : Sys n T) (h : XI σ n T mk) (g : MI τ n T mk) (x y : Int32) : SimR (WO1 exI) cvI (fn_X3_apart σ x y) (fn_X4_apart τ x y) z := by
  have hn := hT.2.1
  rcases ok_bad n x (by omega) with c | ⟨s, hs, rfl⟩
  · exact sim_bad w1b ne10 hT (X_apart_bad hT h (Or.inl c)) (M_apart_bad hT g (Or.inl c))
  rcases ok_bad n y (by omega) with c | ⟨l, hl, rfl⟩
  · exact sim_bad w1b ne10 hT (X_apart_bad hT h (Or.inr c)) (M_apart_bad hT g (Or.inr c))
  exact sim_ok w1o hT (X_apart_ok hT h hs hl) (M_apart_ok hT g hs hl)
theorem sim_enabled (hT : Sys n T) (h : XI σ n T mk) (g : MI τ n T mk) (x : Int32) : SimR (WO1 exI) cvI (fn_X3_enabled σ x) (fn_X4_enabled τ x) z := by
  have hn := hT.2.1
  rcases ok_bad n x (by omega) with c | ⟨s, hs, rfl⟩
  · exact sim_bad w1b ne10 hT (X_enabled_bad h c) (M_enabled_bad g c)
  exact sim_ok w1o hT (X_enabled_ok hT h hs) (M_enabled_ok hT g hs)
theorem sim_distance (hT : Sys n T) (h : XI σ n T mk) (g : MI τ n T mk) (x : Int32) : SimR (WO1 exI) cvI (fn_X3_distance σ x) (fn_X4_distance τ x) z := by
  have hn := hT.2.1
  rcases ok_bad n x (by omega) with c | ⟨s, hs, rfl⟩
  · exact sim_bad w1b ne10 hT (X_distance_bad h c) (M_distance_bad g c)
  exact sim_ok w1o hT (X_distance_ok hT h hs) (M_distance_ok hT g hs)
theorem sim_isRegion (hT : Sys n T) (h : XI σ n T mk) (g : MI τ n T mk) (x : Int32) : SimR (WOb exA) cvB (fn_X3_isRegion σ x) (fn_X4_isRegion τ x) z := by
  have := p12 hT
  rcases ok_bad (2 ^ n) x (by omega) with c | ⟨s, hs, rfl⟩
  · exact sim_bad wbb ne10 hT (X_isRegion_bad hT h c) (M_isRegion_bad hT g c)
  exact sim_ok wbo hT (X_isRegion_ok hT h hs) (M_isRegion_ok hT g hs)
theorem sim_grow (hT : Sys n T) (h : XI σ n T mk) (g : MI τ n T mk) (x : Int32) : SimR (WO1 exA) cvI (fn_X3_grow σ x) (fn_X4_grow τ x) z := by
  have := p12 hT
  rcases ok_bad (2 ^ n) x (by omega) with c | ⟨s, hs, rfl⟩
  · exact sim_bad w1b ne10 hT (X_grow_bad hT h c) (M_grow_bad hT g c)
  exact sim_ok w1o hT (X_grow_ok hT h hs) (M_grow_ok hT g hs)
theorem sim_region (hT : Sys n T) (h : XI σ n T mk) (g : MI τ n T mk) (x : Int32) : SimR (WO1 exI) cvI (fn_X3_region σ x) (fn_X4_region τ x) z := by
  have := RgL_len hT
  rcases ok_bad (RgL n T).length x (by omega) with c | ⟨s, hs, rfl⟩
  · exact sim_bad w1b ne10 hT (X_region_bad hT h c) (M_region_bad hT g c)
  exact sim_ok w1o hT (X_region_ok hT h hs) (M_region_ok hT g hs)
theorem sim_isLeast (hT : Sys n T) (h : XI σ n T mk) (g : MI τ n T mk) (x : Int32) : SimR (WOb exI) cvB (fn_X3_isLeast σ x) (fn_X4_isLeast τ x) z := by
  have := RgL_len hT
  rcases ok_bad (RgL n T).length x (by omega) with c | ⟨s, hs, rfl⟩
  · exact sim_bad wbb ne10 hT (X_isLeast_bad hT h c) (M_isLeast_bad hT g c)
  exact sim_ok wbo hT (X_isLeast_ok hT h hs) (M_isLeast_ok hT g hs)
theorem sim_placeRegion (hT : Sys n T) (h : XI σ n T mk) (g : MI τ n T mk) (x : Int32) : SimR (WO2 exS exI) cvI (fn_X3_placeRegion σ x) (fn_X4_placeRegion τ x) z := by
  cases mk with
  | none => exact sim_bad w2b ne10 hT (X_placeRegion_no h) (M_placeRegion_no g)
  | some m =>
    have := PL_len (n := n) (T := T)
    rcases ok_bad (PL n T).length x (by omega) with c | ⟨s, hs, rfl⟩
    · exact sim_bad w2c ne20 hT (X_placeRegion_bad h c) (M_placeRegion_bad g c)
    exact sim_ok w2o hT (X_placeRegion_ok hT h hs) (M_placeRegion_ok g hs)
theorem sim_consumed (hT : Sys n T) (h : XI σ n T mk) (g : MI τ n T mk) (x : Int32) : SimR (WO2 exS exI) cvI (fn_X3_consumed σ x) (fn_X4_consumed τ x) z := by
  cases mk with
  | none => exact sim_bad w2b ne10 hT (X_consumed_no h) (M_consumed_no g)
  | some m =>
    have := hT.2.1
    rcases ok_bad 6 x (by omega) with c | ⟨s, hs, rfl⟩
    · exact sim_bad w2c ne20 hT (X_consumed_bad h c) (M_consumed_bad g c)
    exact sim_ok w2o hT (X_consumed_ok h hs) (M_consumed_ok hT g hs)
theorem sim_produced (hT : Sys n T) (h : XI σ n T mk) (g : MI τ n T mk) (x : Int32) : SimR (WO2 exS exI) cvI (fn_X3_produced σ x) (fn_X4_produced τ x) z := by
  cases mk with
  | none => exact sim_bad w2b ne10 hT (X_produced_no h) (M_produced_no g)
  | some m =>
    have := hT.2.1
    rcases ok_bad 6 x (by omega) with c | ⟨s, hs, rfl⟩
    · exact sim_bad w2c ne20 hT (X_produced_bad h c) (M_produced_bad g c)
    exact sim_ok w2o hT (X_produced_ok h hs) (M_produced_ok hT g hs)
theorem sim_fire (hT : Sys n T) (h : XI σ n T mk) (g : MI τ n T mk) (x : Int32) : SimR (WO2 exS exI) cvI (fn_X3_fire σ x) (fn_X4_fire τ x) z := by
  cases mk with
  | none => exact sim_bad w2b ne10 hT (X_fire_no h) (M_fire_no g)
  | some m =>
    have := hT.2.1
    rcases ok_bad 6 x (by omega) with c | ⟨s, hs, rfl⟩
    · exact sim_bad w2c ne20 hT (X_fire_bad h c) (M_fire_bad g c)
    exact sim_ok w2o hT (X_fire_ok h hs) (M_fire_ok hT g hs)
theorem sim_markingAt (hT : Sys n T) (h : XI σ n T mk) (g : MI τ n T mk) (x : Int32) : SimR (WO2 exS exI) cvI (fn_X3_markingAt σ x) (fn_X4_markingAt τ x) z := by
  cases mk with
  | none => exact sim_bad w2b ne10 hT (X_markingAt_no h) (M_markingAt_no g)
  | some m =>
    have : (ML n T).length ≤ 200 := (mkS_ok (n := n) (T := T) 200).1
    rcases ok_bad (ML n T).length x (by omega) with c | ⟨s, hs, rfl⟩
    · exact sim_bad w2c ne20 hT (X_markingAt_bad h c) (M_markingAt_bad g c)
    exact sim_ok w2o hT (X_markingAt_ok h hs) (M_markingAt_ok g hs)
theorem sim_marking (hT : Sys n T) (h : XI σ n T mk) (g : MI τ n T mk) : SimR (WO1 exS) cvI (fn_X3_marking σ) (fn_X4_marking τ) z := by
  cases mk with
  | none => exact sim_bad w1b ne10 hT (X_marking_no h) (M_marking_no g)
  | some m => exact sim_ok w1o hT (X_marking_ok h) (M_marking_ok g)
theorem sim_markingCount (hT : Sys n T) (h : XI σ n T mk) (g : MI τ n T mk) : SimR (WO1 exS) cvI (fn_X3_markingCount σ) (fn_X4_markingCount τ) z := by
  cases mk with
  | none => exact sim_bad w1b ne10 hT (X_markingCount_no h) (M_markingCount_no g)
  | some m => exact sim_ok w1o hT (X_markingCount_ok h) (M_markingCount_ok g)
/-- isFaithful, the reference's by its two parts -/
theorem sim_isFaithful (hT : Sys n T) (h : XI σ n T mk) (g : MI τ n T mk) : ∃ R σ' kk z' r τ1 τ' v n' T' mk', fn_X3_isFaithful σ = some (R, σ') ∧ WOb exS R z kk z' ∧ fn_X4_asks τ 0 1 = some (v, τ1) ∧ ((v = 0 ∧ r = 0 ∧ τ' = τ1) ∨ (¬ v = 0 ∧ fw_X4_isFaithful (s5 τ1) = some (r, τ'))) ∧ Sys n' T' ∧ XI σ' n' T' mk' ∧ MI τ' n' T' mk' ∧ τ'.1 0 = kk ∧ (kk = 0 → z' = cvB r) := by
  cases mk with
  | none =>
    obtain ⟨σ', e1, i1⟩ := X_isFaithful_no h
    exact ⟨.inr exS, σ', 1, z, 0, ss τ 0 1, ss τ 0 1, 0, n, T, none, e1, wbb z, M_asks_no g, Or.inl ⟨rfl, rfl, rfl⟩, hT, i1, g.th 1, ss0, fun q => absurd q ne10⟩
  | some m =>
    obtain ⟨σ', e1, i1⟩ := X_isFaithful_ok hT h
    obtain ⟨τ', e2, k2⟩ := M_faith hT (g.th 0)
    have ea : fn_X4_asks τ 0 1 = some (1, ss τ 0 0) := M_asks_ok (k := 0) (N := 1) g (by decide) (by decide)
    refine ⟨.inl (b2i (faithS n T)), σ', 0, cvB (b2i (faithS n T)), b2i (faithS n T), ss τ 0 0, τ', 1, n, T, some m, e1, wbo _ z, ea, Or.inr ⟨ne10, e2⟩, hT, i1, (g.th 0).keep5 k2, ?_, fun _ => rfl⟩
    rw [k2.1]; exact ss0
/-- the calls that never throw -/
theorem sim_stateCount (hT : Sys n T) (h : XI σ n T mk) (g : MI τ n T mk) : ∃ r τ', fn_X3_stateCount σ = some r ∧ fn_X4_stateCount τ = some (r, τ') ∧ MI τ' n T mk := by
  obtain ⟨τ', e, i, -⟩ := M_stateCount g
  exact ⟨_, τ', X_stateCount h, e, i⟩
theorem sim_reached (hT : Sys n T) (h : XI σ n T mk) (g : MI τ n T mk) : ∃ r τ', fn_X3_reached σ = some r ∧ fn_X4_reached τ = some (r, τ') ∧ MI τ' n T mk := by
  obtain ⟨τ', e, i, -⟩ := M_reached hT g
  exact ⟨_, τ', X_reached hT h, e, i⟩
theorem sim_hasNet (hT : Sys n T) (h : XI σ n T mk) (g : MI τ n T mk) : ∃ r τ', fn_X3_hasNet σ = some r ∧ fn_X4_hasNet τ = some (r, τ') ∧ MI τ' n T mk := by
  obtain ⟨τ', e, i, -⟩ := M_hasNet g
  exact ⟨_, τ', X_hasNet h, e, i⟩
theorem sim_regionCount (hT : Sys n T) (h : XI σ n T mk) (g : MI τ n T mk) : ∃ r σ' τ', fn_X3_regionCount σ = some (r, σ') ∧ fn_X4_regionCount τ = some (r, τ') ∧ XI σ' n T mk ∧ MI τ' n T mk := by
  obtain ⟨σ', e1, i1⟩ := X_regionCount hT h
  obtain ⟨τ', e2, i2, -⟩ := M_regionCount hT g
  exact ⟨_, σ', τ', e1, e2, i1, i2⟩
theorem sim_lumps (hT : Sys n T) (h : XI σ n T mk) (g : MI τ n T mk) : ∃ r σ' τ', fn_X3_lumps σ = some (r, σ') ∧ fn_X4_lumps τ = some (r, τ') ∧ XI σ' n T mk ∧ MI τ' n T mk := by
  obtain ⟨σ', e1, i1⟩ := X_lumps hT h
  obtain ⟨τ', e2, i2, -⟩ := M_lumps hT g
  exact ⟨_, σ', τ', e1, e2, i1, i2⟩
theorem sim_leaks (hT : Sys n T) (h : XI σ n T mk) (g : MI τ n T mk) : ∃ r σ' τ', fn_X3_leaks σ = some (r, σ') ∧ fn_X4_leaks τ = some (r, τ') ∧ XI σ' n T mk ∧ MI τ' n T mk := by
  obtain ⟨σ', e1, i1⟩ := X_leaks hT h
  obtain ⟨τ', e2, i2, -⟩ := M_leaks hT g
  exact ⟨_, σ', τ', e1, e2, i1, i2⟩
theorem sim_digest (hT : Sys n T) (h : XI σ n T mk) (g : MI τ n T mk) : ∃ r σ' τ', fn_X3_digest σ = some (r, σ') ∧ fn_X4_digest τ = some (r, τ') ∧ XI σ' n T mk ∧ MI τ' n T mk := by
  obtain ⟨σ', e1, i1⟩ := X_digest hT h
  obtain ⟨τ', e2, i2, -⟩ := M_digest hT g
  exact ⟨_, σ', τ', e1, e2, i1, i2⟩
theorem sim_fidelity (hT : Sys n T) (h : XI σ n T mk) (g : MI τ n T mk) : ∃ r σ' τ', fn_X3_fidelity σ = some (r, σ') ∧ fn_X4_fidelity τ = some (r, τ') ∧ XI σ' n T mk ∧ MI τ' n T mk := by
  obtain ⟨σ', e1, i1⟩ := X_fidelity hT h
  obtain ⟨τ', e2, i2, -⟩ := M_fidelity hT g
  exact ⟨_, σ', τ', e1, e2, i1, i2⟩
theorem sim_makeNet (hT : Sys n T) (h : XI σ n T mk) (g : MI τ n T mk) : ∃ r σ' τ' mk', fn_X3_makeNet σ = some (r, σ') ∧ fn_X4_makeNet τ = some (r, τ') ∧ XI σ' n T mk' ∧ MI τ' n T mk' := by
  obtain ⟨σ', e1, i1⟩ := X_makeNet hT h
  obtain ⟨τ', e2, i2, -⟩ := M_makeNet hT g
  exact ⟨_, σ', τ', _, e1, e2, i1, i2⟩
end SIM
section LC1
variable {p : Program} {l : Launch} {e : Env} {R : Room} {s : State} {m : MethodId} {args : Array Value} {below : List Frame} {meth : Method} {c : Code} {H : Heap} {locs : List Loc} {cells slots : Nat} {Q : State → Prop}
variable {cc : ByteArray} {pc : Nat} {ls : Array Slot} {rest : List Value}
theorem lv_lcmp0 (hexec : p.tables.exec = Jvm.exec) (hb : c.code = cc) {x : Int64} (hdg : decode cc pc = .ok (.lcmp, 1))
    (k : W p l e R s m args below meth c H locs cells slots Q (F0 m (pc + 1) ls (.int 0 :: rest))) : W p l e R s m args below meth c H locs cells slots Q (F0 m pc ls (.long x :: .long x :: rest)) := by
  intro T hT X
  obtain ⟨t, a, b⟩ := k T hT X
  refine ⟨t, ?_, b⟩
  jvm_step X.here [X.here.top, hexec, hb, hdg]
  exact a
end LC1
