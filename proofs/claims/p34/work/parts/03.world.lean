/-! 03: worlds of the class (31 cells) and of the reference (5 cells), and rows that take the pure facts of the walks -/
def Inj (n : Nat) (κ : Nat → Nat) : Prop := ∀ i j : Nat, i < n → j < n → κ i = κ j → i = j
/-- a system's mutable contents: its whole numbers, its arrays -/
abbrev SX : Type := (Nat → Int32) × (Nat → Nat → Int32)
def ss (σ : SX) (k : Nat) (v : Int32) : SX := (upd σ.1 k v, σ.2)
def sa (σ : SX) (a i : Nat) (v : Int32) : SX := (σ.1, fun b => if b = a then upd (σ.2 a) i v else σ.2 b)
def gw (n : Nat) (κ : Nat → Nat) (f : Nat → va_E) : va_W := (List.range n).map fun k => (κ k, f k)
theorem gw_at {n : Nat} {κ : Nat → Nat} {f : Nat → va_E} {k : Nat} (h : k < n) : (gw n κ f)[k]? = some (κ k, f k) := by simp [gw, h]
theorem gw_of {n : Nat} {κ : Nat → Nat} {f : Nat → va_E} {k : Nat} {q : Nat × va_E} (h : (gw n κ f)[k]? = some q) : k < n ∧ q = (κ k, f k) := by
  by_cases hk : k < n
  · rw [gw_at hk] at h
    exact ⟨hk, (Option.some.inj h).symm⟩
  · rw [List.getElem?_eq_none (by simp [gw]; omega)] at h
    cases h
theorem gw_set {n : Nat} {κ : Nat → Nat} {f f' : Nat → va_E} {k : Nat} {e : va_E} (h : k < n) (hf : ∀ j, j < n → f' j = if j = k then e else f j) : (gw n κ f).set k (κ k, e) = gw n κ f' := by
  apply List.ext_getElem?
  intro j
  by_cases hj : j < n
  · rw [gw_at hj, hf j hj]
    by_cases e1 : j = k
    · subst e1
      rw [if_pos rfl, List.getElem?_set_self (by simpa [gw] using hj)]
    · rw [if_neg e1, List.getElem?_set_ne (Ne.symm e1), gw_at hj]
  · rw [List.getElem?_eq_none (by simp [gw]; omega), List.getElem?_eq_none (by simp [gw]; omega)]
theorem gw_D {n : Nat} {κ : Nat → Nat} {f : Nat → va_E} {A : Nat → Prop} (hκ : Inj n κ) (hA : ∀ k, k < n → A (κ k)) : va_D A (gw n κ f) := by
  refine ⟨fun i j p q hi hj hpq => ?_, fun k q hk => ?_⟩
  · obtain ⟨h1, rfl⟩ := gw_of hi
    obtain ⟨h2, rfl⟩ := gw_of hj
    exact hκ i j h1 h2 hpq
  · obtain ⟨h1, rfl⟩ := gw_of hk
    exact hA k h1
def gA (n : Nat) (κ : Nat → Nat) : Nat → Prop := fun q => ∃ k, k < n ∧ κ k = q
theorem gA_in {n : Nat} {κ : Nat → Nat} : ∀ k, k < n → gA n κ (κ k) := fun k h => ⟨k, h, rfl⟩
/-- the words of nest mates, which no list may hold -/
def nk (U : State) : Prop :=
  va_Nw (.fieldLinkNest RX3 34 RX2 "states" "I" RX3) U ∧ va_Nw (.fieldLinkNest RX1 54 RX2 "states" "I" RX3) U ∧ va_Nw (.fieldLinkNest RX0 98 RX2 "states" "I" RX3) U ∧
  va_Nw (.fieldLinkNest RX3 188 RX1 "known" "Z" RX3) U ∧ va_Nw (.fieldLinkNest RX3 128 RX0 "made" "Z" RX3) U ∧ va_Nw (.fieldLinkNest RX3 141 RX0 "places" "I" RX3) U ∧
  va_Nw (.fieldLinkNest RX3 135 RX0 "first" "I" RX3) U ∧ va_Nw (.fieldLinkNest RX3 138 RX0 "present" "I" RX3) U ∧
  va_Nw (.methodLinkNest RX2 62 yX3_has RX3) U ∧ va_Nw (.methodLinkNest RX1 42 yX3_has RX3) U ∧ va_Nw (.methodLinkNest RX0 75 yX3_has RX3) U
theorem nk.warm {s U : State} (hW : s.WarmedH U.vm) (h : nk s) : nk U := by
  obtain ⟨h1, h2, h3, h4, h5, h6, h7, h8, h9, h10, h11⟩ := h
  exact ⟨h1.warmF hW, h2.warmF hW, h3.warmF hW, h4.warmF hW, h5.warmF hW, h6.warmF hW, h7.warmF hW, h8.warmF hW, h9.warmM hW, h10.warmM hW, h11.warmM hW⟩
abbrev gT (cI cII : ClassId) : List (ClassId × FieldType) := [(cI, .int), (cII, .array .int)]
def KX (D : va_G) (cI cII : ClassId) (U : State) : Prop := va_K D vwCl (gT cI cII) U ∧ nk U
theorem KX.warm {D : va_G} {cI cII : ClassId} {s U : State} (hW : s.WarmedH U.vm) (h : KX D cI cII s) : KX D cI cII U := ⟨va_K.moved hW.alike h.1, nk.warm hW h.2⟩
theorem KX.calling {D : va_G} {cI cII : ClassId} {U : State} {g : JFrame} {mk : MethodId} {a : Array Value} (h : KX D cI cII U) : KX D cI cII (U.calling g mk a) :=
  KX.warm (s := U) (U := U.calling g mk a) (State.WarmedH.refl U) h
def gP (D : va_G) (cI cII : ClassId) (n : Nat) (κ : Nat → Nat) (f : Nat → va_E) (U : State) : Prop := va_P D vwCl (gw n κ f) U.heap ∧ KX D cI cII U
theorem gP.blind {av : List Value} {D : va_G} {cI cII : ClassId} {n : Nat} {κ : Nat → Nat} {f : Nat → va_E} : FrameBlind (va_Pc av (gP D cI cII n κ f)) := fun _ _ _ _ h => ⟨h.1, h.2.1, h.2.2.calling⟩
/-- what a world of n cells holds behind a callee that changed its first n0 -/
theorem gw_behind {D : va_G} {n0 n : Nat} {κ : Nat → Nat} {f f' : Nat → va_E} {H H1 : Heap} (hn : n0 ≤ n) (hκ : Inj n κ) (hP : va_P D vwCl (gw n κ f) H) (hP1 : va_P D vwCl (gw n0 κ f') H1)
    (hff : ∀ j, n0 ≤ j → j < n → f' j = f j) (hk : ∀ q : Nat, q < H.size → ¬ gA n0 κ q → H1[q]? = H[q]?) : va_P D vwCl (gw n κ f') H1 := by
  intro k q hq
  obtain ⟨h1, rfl⟩ := gw_of hq
  by_cases h2 : k < n0
  · exact hP1 k _ (gw_at h2)
  · have h3 := hP k _ (gw_at h1)
    have h4 : va_at D vwCl (κ k, f k) H1 := h3.kept (hk _ h3.lt (fun ⟨j, hj, e⟩ => by
      have := hκ j k (by omega) h1 e
      omega))
    rw [hff k (by omega) h1]
    exact h4
/-! pure helpers of the walks -/
def letb {α β : Type} (e : α) (k : α → β) : β := k e
theorem letb_w {α β : Type} {e : α} {k : α → β} {r : β} (h : letb e k = r) : ∃ x, x = e ∧ k x = r := ⟨e, rfl, h⟩
theorem obw {α β : Type} {o : Option α} {k : α → Option β} {r : β} (h : o.bind k = some r) : ∃ x, o = some x ∧ k x = some r := Option.bind_eq_some_iff.mp h
def bind2 {α β γ : Type} (o : Option (α × β)) (k : α → β → Option γ) : Option γ := o.bind fun q => k q.1 q.2
theorem bind2_w {α β γ : Type} {o : Option (α × β)} {k : α → β → Option γ} {r : γ} (h : bind2 o k = some r) : ∃ x y, o = some (x, y) ∧ k x y = some r := by
  obtain ⟨q, h1, h2⟩ := obw h
  exact ⟨q.1, q.2, h1, h2⟩
theorem iteT {α : Type} {c : Prop} [Decidable c] {a b r : α} (h : c) (hf : (if c then a else b) = r) : a = r := (if_pos h).symm.trans hf
theorem iteF {α : Type} {c : Prop} [Decidable c] {a b r : α} (h : ¬ c) (hf : (if c then a else b) = r) : b = r := (if_neg h).symm.trans hf
def ixo (i : Int32) (n : Nat) : Bool := decide (i < 0) || decide (n ≤ i.toNatClampNeg)
def ag (σ : SX) (a len : Nat) (i : Int32) : Option Int32 := if ixo i len then none else some (σ.2 a i.toNatClampNeg)
def as_ (σ : SX) (a len : Nat) (i v : Int32) : Option SX := if ixo i len then none else some (sa σ a i.toNatClampNeg v)
def arow (i : Int32) : Option Nat := if ixo i 6 then none else some i.toNatClampNeg
theorem ixo_in {i : Int32} {n : Nat} (h : ¬ ixo i n = true) : vp_in i n := by
  intro q
  apply h
  simp only [ixo, Bool.or_eq_true, decide_eq_true_eq]
  exact q
theorem ag_w {σ : SX} {a len : Nat} {i x : Int32} (h : ag σ a len i = some x) : vp_in i len ∧ x = σ.2 a i.toNatClampNeg := by
  unfold ag at h
  split at h
  · cases h
  · next h1 => exact ⟨ixo_in h1, (Option.some.inj h).symm⟩
theorem as_w {σ σ' : SX} {a len : Nat} {i v : Int32} (h : as_ σ a len i v = some σ') : vp_in i len ∧ σ' = sa σ a i.toNatClampNeg v := by
  unfold as_ at h
  split at h
  · cases h
  · next h1 => exact ⟨ixo_in h1, (Option.some.inj h).symm⟩
theorem arow_w {i : Int32} {r : Nat} (h : arow i = some r) : vp_in i 6 ∧ i.toNatClampNeg = r ∧ r < 6 := by
  unfold arow at h
  split at h
  · cases h
  · next h1 =>
    have h2 := ixo_in h1
    have h3 := Option.some.inj h
    exact ⟨h2, h3, by rw [← h3]; exact Nat.not_le.mp fun q => h2 (Or.inr q)⟩
/-- an answer that is a boolean -/
def zr (v : Int32) : Option Int32 := if v = 0 ∨ v = 1 then some v else none
theorem zr_w {v r : Int32} (h : zr v = some r) : v = r ∧ narrow .boolean (.int v) = .int v := by
  unfold zr at h
  split at h
  · next h1 =>
    refine ⟨Option.some.inj h, ?_⟩
    rcases h1 with rfl | rfl <;> rfl
  · cases h
def loopF {F : Type} : Nat → (F → F) → F → F
  | 0, _, bot => bot
  | k + 1, body, bot => body (loopF k body bot)
theorem loopF_w {F : Type} {body : F → F} {bot : F} {P : F → Prop} (h0 : P bot) (hs : ∀ g, P g → P (body g)) : ∀ k, P (loopF k body bot)
  | 0 => h0
  | k + 1 => hs _ (loopF_w h0 hs k)
def FU : Nat := 5000
/-! rows -/
section GR
variable {p : Program} {l : Launch} {e : Env} {R : Room} {s : State} {m : MethodId} {args : Array Value} {below : List Frame} {meth : Method} {c : Code} {H : Heap} {locs : List Loc} {cells slots : Nat} {Q : State → Prop}
variable {cc : ByteArray} {pc : Nat} {ls : Array Slot} {rest : List Value} {D : va_G} {A : Nat → Prop} {n : Nat} {κ : Nat → Nat} {f f' : Nat → va_E} {cI cII : ClassId} {nL : Nat} {Ts : List Cond} {own : String}
theorem lv_nmi {x v : Int32} (h : x = v) (k : W p l e R s m args below meth c H locs cells slots Q (F0 m pc ls (.int x :: rest))) : W p l e R s m args below meth c H locs cells slots Q (F0 m pc ls (.int v :: rest)) := h ▸ k
theorem lv_nml {x v : Int64} (h : x = v) (k : W p l e R s m args below meth c H locs cells slots Q (F0 m pc ls (.long x :: rest))) : W p l e R s m args below meth c H locs cells slots Q (F0 m pc ls (.long v :: rest)) := h ▸ k
theorem lv_nmd {x v : UInt64} (h : x = v) (k : W p l e R s m args below meth c H locs cells slots Q (F0 m pc ls (.double x :: rest))) : W p l e R s m args below meth c H locs cells slots Q (F0 m pc ls (.double v :: rest)) := h ▸ k
theorem g_ald {σ : SX} {a len : Nat} {i x : Int32} (S : CallFix p m c cc nL s args Ts own) (hK : KX D cI cII s) (hP : va_P D vwCl (gw n κ f) H) (ha : a < n) (hfa : f a = .inl (cI, len, .inl (σ.2 a))) (hag : ag σ a len i = some x) (hdg : decode cc pc = .ok (.iaload, 1))
    (kk : W p l e R s m args below meth c H locs cells slots Q (F0 m (pc + 1) ls (.int x :: rest))) : W p l e R s m args below meth c H locs cells slots Q (F0 m pc ls (.int i :: .ref (κ a) :: rest)) := by
  obtain ⟨h1, rfl⟩ := ag_w hag
  exact va_iald S.1 S.2.1 hK.1 hP a 0 (by rw [gw_at ha, hfa]) rfl h1 hdg kk
theorem g_ast {σ σ' : SX} {a len : Nat} {i x : Int32} (S : CallFix p m c cc nL s args Ts own) (hK : KX D cI cII s) (hP : va_P D vwCl (gw n κ f) H) (hκ : Inj n κ) (hA : ∀ k, k < n → A (κ k)) (hS : va_S A s.heap H locs) (ha : a < n) (hfa : f a = .inl (cI, len, .inl (σ.2 a))) (has : as_ σ a len i x = some σ')
    (hf' : ∀ j, j < n → f' j = if j = a then .inl (cI, len, .inl (upd (σ.2 a) i.toNatClampNeg x)) else f j) (hdg : decode cc pc = .ok (.iastore, 1))
    (kk : ∀ (H : Heap) (locs : List Loc), va_P D vwCl (gw n κ f') H → va_S A s.heap H locs → W p l e R s m args below meth c H locs cells slots Q (F0 m (pc + 1) ls rest)) : W p l e R s m args below meth c H locs cells slots Q (F0 m pc ls (.int x :: .int i :: .ref (κ a) :: rest)) := by
  obtain ⟨h1, -⟩ := as_w has
  refine va_iast S.1 S.2.1 hK.1 hP (gw_D hκ hA) hS a 0 (by rw [gw_at ha, hfa]) rfl h1 hdg (fun H1 locs1 hP1 _ hS1 => kk H1 locs1 ?_ hS1)
  rw [gw_set ha hf'] at hP1
  exact hP1
theorem g_aald {q b r : Nat} {i : Int32} (S : CallFix p m c cc nL s args Ts own) (hK : KX D cI cII s) (hP : va_P D vwCl (gw n κ f) H) (hq : q < n) (hfq : f q = .inl (cII, 6, .inr (.inr (.inr (.inr (fun i => some (κ (b + i)))))))) (har : arow i = some r) (hdg : decode cc pc = .ok (.aaload, 1))
    (kk : W p l e R s m args below meth c H locs cells slots Q (F0 m (pc + 1) ls (.ref (κ (b + r)) :: rest))) : W p l e R s m args below meth c H locs cells slots Q (F0 m pc ls (.int i :: .ref (κ q) :: rest)) := by
  obtain ⟨hin, h2, h3⟩ := arow_w har
  have hlt : i.toNatClampNeg < 6 := by rw [h2]; exact h3
  have haq : (gw n κ f)[q]? = some (κ q, .inl (cII, 6, .inr (.inr (.inr (.inr (fun i => some (κ (b + i)))))))) := by rw [gw_at hq, hfq]
  refine W.aald (v := va_rf (some (κ (b + r)))) (ty := .array .int) S.1 S.2.1 (hP q _ haq) ((hK.1.2 1 _ rfl).1 6 (fun j => va_rf (some (κ (b + j))))) rfl (fun q => by cases q) (by show ¬ (i < 0 ∨ (arrV _ _ _).slots.size ≤ _); rw [arrV_size]; exact hin) (by show (arrV _ _ _).slots[_]? = _; rw [arrV_read _ _ hlt, h2]) rfl rfl hdg kk
theorem g_put {q ci N k index : Nat} {C ref : String} {T : u_T} {fs : List Value} {v : Value} {ty : FieldType} {ty0 : Nat → FieldType} (S : CallFix p m c cc nL s args Ts own) (hK : KX D cI cII s) (hP : va_P D vwCl (gw n κ f) H) (hκ : Inj n κ) (hA : ∀ k, k < n → A (κ k)) (hS : va_S A s.heap H locs)
    (hin : ∀ w ∈ u_ws C T N, w ∈ Ts) (hty : ∀ k, k < N → parseFieldDescriptor (T k).2.2.1 = some (ty0 k)) (hnm : ∀ a, a < N → ∀ b, b < N → a ≠ b → (T a).2.1 ≠ (T b).2.1)
    (hq : q < n) (hfq : f q = .inr (ci, fs)) (hc : vwCl[ci]? = some (C, T, N)) (hk : k < N) (href : ref = (T k).1) (hlink : Cond.fieldLink own index ref (T k).2.1 (T k).2.2.1 ∈ Ts) (hfin : (T k).2.2.2 = false)
    (hd : parseFieldDescriptor (T k).2.2.1 = some ty) (hn : narrow ty v = v) (hfit : fits ty v = true) (hl : k < fs.length) (hf' : ∀ j, j < n → f' j = if j = q then .inr (ci, fs.set k v) else f j) (hdg : decode cc pc = .ok (.putfield index, 3))
    (kk : ∀ (H : Heap) (locs : List Loc), va_P D vwCl (gw n κ f') H → va_S A s.heap H locs → W p l e R s m args below meth c H locs cells slots Q (F0 m (pc + 3) ls rest)) : W p l e R s m args below meth c H locs cells slots Q (F0 m pc ls (v :: .ref (κ q) :: rest)) := by
  subst href
  refine va_put S.1 S.2.1 S.2.2.2.2 hin ty0 hty hnm S.2.2.2.1 hK.1 hP (gw_D hκ hA) hS q (by rw [gw_at hq, hfq]) hc k hk (S.2.2.2.2 _ hlink) (fun _ h9 => h9) hfin hd hn hfit hl hdg (fun H1 locs1 hP1 _ hS1 => kk H1 locs1 ?_ hS1)
  rw [gw_set hq hf'] at hP1
  exact hP1
theorem g_putN {q ci N k index : Nat} {C ref host : String} {T : u_T} {fs : List Value} {v : Value} {ty : FieldType} {ty0 : Nat → FieldType} (S : CallFix p m c cc nL s args Ts own) (hK : KX D cI cII s) (hP : va_P D vwCl (gw n κ f) H) (hκ : Inj n κ) (hA : ∀ k, k < n → A (κ k)) (hS : va_S A s.heap H locs)
    (hin : ∀ w ∈ u_ws C T N, w ∈ Ts) (hty : ∀ k, k < N → parseFieldDescriptor (T k).2.2.1 = some (ty0 k)) (hnm : ∀ a, a < N → ∀ b, b < N → a ≠ b → (T a).2.1 ≠ (T b).2.1)
    (hq : q < n) (hfq : f q = .inr (ci, fs)) (hc : vwCl[ci]? = some (C, T, N)) (hk : k < N) (href : ref = (T k).1) (hlink : va_Nw (.fieldLinkNest own index ref (T k).2.1 (T k).2.2.1 host) s) (hfin : (T k).2.2.2 = false)
    (hd : parseFieldDescriptor (T k).2.2.1 = some ty) (hn : narrow ty v = v) (hfit : fits ty v = true) (hl : k < fs.length) (hf' : ∀ j, j < n → f' j = if j = q then .inr (ci, fs.set k v) else f j) (hdg : decode cc pc = .ok (.putfield index, 3))
    (kk : ∀ (H : Heap) (locs : List Loc), va_P D vwCl (gw n κ f') H → va_S A s.heap H locs → W p l e R s m args below meth c H locs cells slots Q (F0 m (pc + 3) ls rest)) : W p l e R s m args below meth c H locs cells slots Q (F0 m pc ls (v :: .ref (κ q) :: rest)) := by
  subst href
  refine va_putN S.1 S.2.1 S.2.2.2.2 hin ty0 hty hnm S.2.2.2.1 hK.1 hP (gw_D hκ hA) hS q (by rw [gw_at hq, hfq]) hc k hk (va_Nw.use rfl hlink) (fun _ h9 => h9) hfin hd hn hfit hl hdg (fun H1 locs1 hP1 _ hS1 => kk H1 locs1 ?_ hS1)
  rw [gw_set hq hf'] at hP1
  exact hP1
theorem g_get {q ci N k index : Nat} {C ref : String} {T : u_T} {fs : List Value} {v : Value} (S : CallFix p m c cc nL s args Ts own) (hK : KX D cI cII s) (hP : va_P D vwCl (gw n κ f) H) (hin : ∀ w ∈ u_ws C T N, w ∈ Ts) 
    (hq : q < n) (hfq : f q = .inr (ci, fs)) (hc : vwCl[ci]? = some (C, T, N)) (hk : k < N) (href : ref = (T k).1) (hlink : Cond.fieldLink own index ref (T k).2.1 (T k).2.2.1 ∈ Ts) (hv : fs[k]? = some v) (hdg : decode cc pc = .ok (.getfield index, 3))
    (kk : W p l e R s m args below meth c H locs cells slots Q (F0 m (pc + 3) ls (v :: rest))) : W p l e R s m args below meth c H locs cells slots Q (F0 m pc ls (.ref (κ q) :: rest)) := by
  subst href
  exact va_get S.1 S.2.1 S.2.2.2.2 hin S.2.2.2.1 hK.1 hP q (by rw [gw_at hq, hfq]) hc k hk (S.2.2.2.2 _ hlink) (fun _ h9 => h9) hv hdg kk
theorem g_getN {q ci N k index : Nat} {C ref host : String} {T : u_T} {fs : List Value} {v : Value} (S : CallFix p m c cc nL s args Ts own) (hK : KX D cI cII s) (hP : va_P D vwCl (gw n κ f) H) (hin : ∀ w ∈ u_ws C T N, w ∈ Ts) 
    (hq : q < n) (hfq : f q = .inr (ci, fs)) (hc : vwCl[ci]? = some (C, T, N)) (hk : k < N) (href : ref = (T k).1) (hlink : va_Nw (.fieldLinkNest own index ref (T k).2.1 (T k).2.2.1 host) s) (hv : fs[k]? = some v) (hdg : decode cc pc = .ok (.getfield index, 3))
    (kk : W p l e R s m args below meth c H locs cells slots Q (F0 m (pc + 3) ls (v :: rest))) : W p l e R s m args below meth c H locs cells slots Q (F0 m pc ls (.ref (κ q) :: rest)) := by
  subst href
  exact va_getN S.1 S.2.1 S.2.2.2.2 hin S.2.2.2.1 hK.1 hP q (by rw [gw_at hq, hfq]) hc k hk (va_Nw.use rfl hlink) (fun _ h9 => h9) hv hdg kk
/-! ends -/
variable {free : Addr → Prop}
theorem g_iret {r v : Int32} (S : CallFix p m c cc nL s args Ts own) (hr : meth.sig.returnType = some .int) (hlk : meth.locks = false) (hK : KX D cI cII s) (hP : va_P D vwCl (gw n κ f) H) (hS : va_S A s.heap H locs) (hv : v = r) (hdg : decode cc pc = .ok (.ireturn, 1)) :
    W p l e R s m args below meth c H locs cells slots (MQ below (va_Qi (fun (r' : Int32) (_ : Unit) => r' = r) (fun _ => gP D cI cII n κ f) A) args s cells slots A) (F0 m pc ls [.int v]) :=
  W.iret (v := v) S.1 S.2.1 hr (fun t ht hW => ⟨⟨v, (), rfl, hv, by rw [ht]; exact hP, KX.warm hW hK⟩, hS.F ht⟩) hS.2.2 hdg hlk
theorem g_zret {r v : Int32} (S : CallFix p m c cc nL s args Ts own) (hr : meth.sig.returnType = some .boolean) (hlk : meth.locks = false) (hK : KX D cI cII s) (hP : va_P D vwCl (gw n κ f) H) (hS : va_S A s.heap H locs) (hv : zr v = some r) (hdg : decode cc pc = .ok (.ireturn, 1)) :
    W p l e R s m args below meth c H locs cells slots (MQ below (va_Qi (fun (r' : Int32) (_ : Unit) => r' = r) (fun _ => gP D cI cII n κ f) A) args s cells slots A) (F0 m pc ls [.int v]) :=
  W.zret (v := v) (ty := .boolean) S.1 S.2.1 hr (zr_w hv).2 (fun t ht hW => ⟨⟨v, (), rfl, (zr_w hv).1, by rw [ht]; exact hP, KX.warm hW hK⟩, hS.F ht⟩) hS.2.2 hdg hlk
theorem g_lret {r v : Int64} (S : CallFix p m c cc nL s args Ts own) (hr : meth.sig.returnType = some .long) (hlk : meth.locks = false) (hK : KX D cI cII s) (hP : va_P D vwCl (gw n κ f) H) (hS : va_S A s.heap H locs) (hv : v = r) (hdg : decode cc pc = .ok (.lreturn, 1)) :
    W p l e R s m args below meth c H locs cells slots (MQ below (va_Ql (fun (r' : Int64) (_ : Unit) => r' = r) (fun _ => gP D cI cII n κ f) A) args s cells slots A) (F0 m pc ls [.long v]) :=
  W.lret (v := v) S.1 S.2.1 hr (fun t ht hW => ⟨⟨v, (), rfl, hv, by rw [ht]; exact hP, KX.warm hW hK⟩, hS.F ht⟩) hS.2.2 hdg hlk
theorem g_dret {r v : UInt64} (S : CallFix p m c cc nL s args Ts own) (hr : meth.sig.returnType = some .double) (hlk : meth.locks = false) (hK : KX D cI cII s) (hP : va_P D vwCl (gw n κ f) H) (hS : va_S A s.heap H locs) (hv : v = r) (hdg : decode cc pc = .ok (.dreturn, 1)) :
    W p l e R s m args below meth c H locs cells slots (MQ below (va_Qd (fun (r' : UInt64) (_ : Unit) => r' = r) (fun _ => gP D cI cII n κ f) A) args s cells slots A) (F0 m pc ls [.double v]) :=
  W.dret (v := v) S.1 S.2.1 hr (fun t ht hW => ⟨⟨v, (), rfl, hv, by rw [ht]; exact hP, KX.warm hW hK⟩, hS.F ht⟩) hS.2.2 hdg hlk
theorem g_vret (S : CallFix p m c cc nL s args Ts own) (hr : meth.sig.returnType = none) (hlk : meth.locks = false) (hK : KX D cI cII s) (hP : va_P D vwCl (gw n κ f) H) (hS : va_S A s.heap H locs) (hdg : decode cc pc = .ok (.return_, 1)) :
    W p l e R s m args below meth c H locs cells slots (MQ below (va_Qv (fun (_ : Unit) => True) (fun _ => gP D cI cII n κ f) A) args s cells slots A) (F0 m pc ls []) :=
  W.vret S.1 S.2.1 hr (fun t ht hW => ⟨⟨(), rfl, trivial, by rw [ht]; exact hP, KX.warm hW hK⟩, hS.F ht⟩) hS.2.2 hdg hlk
/-! calls: the callee has the first n0 cells -/
variable {n0 : Nat} {y : MethodName} {bytes : ByteArray} {maxL na index : Nat} {ret : Option FieldType} {ws : List Cond} {rm : Room} {As st0 : List Value} {ar : Array Value}
theorem g_calli {r : Int32} (hr : va_Run p l e R s m args below meth c H locs cells slots 0 0 (F0 m pc ls st0) rest (va_Qi (fun (r' : Int32) (_ : Unit) => r' = r) (fun _ => gP D cI cII n0 κ f') (gA n0 κ) ar) (gA n0 κ))
    (hn0 : n0 ≤ n) (hκ : Inj n κ) (hA : ∀ k, k < n → A (κ k)) (hP : va_P D vwCl (gw n κ f) H) (hS : va_S A s.heap H locs) (hff : ∀ j, n0 ≤ j → j < n → f' j = f j)
    (kk : ∀ (H : Heap) (locs : List Loc), va_P D vwCl (gw n κ f') H → va_S A s.heap H locs → W p l e R s m args below meth c H locs cells slots Q (F0 m (pc + 3) ls (.int r :: rest))) : W p l e R s m args below meth c H locs cells slots Q (F0 m pc ls st0) := by
  have hAA : ∀ q, gA n0 κ q → A q := fun q ⟨k, hk, e⟩ => e ▸ hA k (by omega)
  refine va_calli hr hS (fun q _ h => hAA q h) hAA (fun r1 u t H1 locs1 ht hvm hw hB hz1 hk1 hS1 => ?_)
  subst hw
  exact kk H1 locs1 (gw_behind hn0 hκ hP (by rw [← ht]; exact hB.1) hff hk1) hS1
theorem g_calll {r : Int64} (hr : va_Run p l e R s m args below meth c H locs cells slots 0 0 (F0 m pc ls st0) rest (va_Ql (fun (r' : Int64) (_ : Unit) => r' = r) (fun _ => gP D cI cII n0 κ f') (gA n0 κ) ar) (gA n0 κ))
    (hn0 : n0 ≤ n) (hκ : Inj n κ) (hA : ∀ k, k < n → A (κ k)) (hP : va_P D vwCl (gw n κ f) H) (hS : va_S A s.heap H locs) (hff : ∀ j, n0 ≤ j → j < n → f' j = f j)
    (kk : ∀ (H : Heap) (locs : List Loc), va_P D vwCl (gw n κ f') H → va_S A s.heap H locs → W p l e R s m args below meth c H locs cells slots Q (F0 m (pc + 3) ls (.long r :: rest))) : W p l e R s m args below meth c H locs cells slots Q (F0 m pc ls st0) := by
  have hAA : ∀ q, gA n0 κ q → A q := fun q ⟨k, hk, e⟩ => e ▸ hA k (by omega)
  refine va_calll hr hS (fun q _ h => hAA q h) hAA (fun r1 u t H1 locs1 ht hvm hw hB hz1 hk1 hS1 => ?_)
  subst hw
  exact kk H1 locs1 (gw_behind hn0 hκ hP (by rw [← ht]; exact hB.1) hff hk1) hS1
theorem g_callv (hr : va_Run p l e R s m args below meth c H locs cells slots 0 0 (F0 m pc ls st0) rest (va_Qv (fun (_ : Unit) => True) (fun _ => gP D cI cII n0 κ f') (gA n0 κ) ar) (gA n0 κ))
    (hn0 : n0 ≤ n) (hκ : Inj n κ) (hA : ∀ k, k < n → A (κ k)) (hP : va_P D vwCl (gw n κ f) H) (hS : va_S A s.heap H locs) (hff : ∀ j, n0 ≤ j → j < n → f' j = f j)
    (kk : ∀ (H : Heap) (locs : List Loc), va_P D vwCl (gw n κ f') H → va_S A s.heap H locs → W p l e R s m args below meth c H locs cells slots Q (F0 m (pc + 3) ls rest)) : W p l e R s m args below meth c H locs cells slots Q (F0 m pc ls st0) := by
  have hAA : ∀ q, gA n0 κ q → A q := fun q ⟨k, hk, e⟩ => e ▸ hA k (by omega)
  refine va_callv hr hS (fun q _ h => hAA q h) hAA (fun u t H1 locs1 ht hvm hw hB hz1 hk1 hS1 => ?_)
  exact kk H1 locs1 (gw_behind hn0 hκ hP (by rw [← ht]; exact hB.1) hff hk1) hS1
/-- what a callee asks: its receiver is the cell q of the world -/
theorem g_preV {q ci : Nat} {C : String} {T : u_T} {N : Nat} {fs : List Value} (hK : KX D cI cII s) (hP : va_P D vwCl (gw n κ f) H) (hn0 : n0 ≤ n) (hq : q < n) (hfq : f q = .inr (ci, fs)) (hc : vwCl[ci]? = some (C, T, N)) :
    PreV s H C (κ q) (va_Pc (.ref (κ q) :: As) (gP D cI cII n0 κ f)) As :=
  ⟨gP.blind, va_recv hK.1 hP hc (q0 := q) (by rw [gw_at hq, hfq]), fun U hU hW => ⟨rfl, by
    rw [hU]
    intro k x hk
    obtain ⟨h1, rfl⟩ := gw_of hk
    exact hP k _ (gw_at (by omega)), KX.warm hW hK⟩⟩
theorem g_preS (hK : KX D cI cII s) (hP : va_P D vwCl (gw n κ f) H) (hn0 : n0 ≤ n) : PreS s H (va_Pc As (gP D cI cII n0 κ f)) As :=
  ⟨gP.blind, fun U hU hW => ⟨rfl, by
    rw [hU]
    intro k x hk
    obtain ⟨h1, rfl⟩ := gw_of hk
    exact hP k _ (gw_at (by omega)), KX.warm hW hK⟩⟩
end GR
theorem g_enter {l : Launch} {y : MethodName} {ws ws' : List Cond} {rm : Room} {cc : ByteArray} {maxL : Nat} {ret : Option FieldType} {av : List Value} {Bp : State → Prop} {Qc : Array Value → State → Outcome → State → Prop} {mc ms : Nat} {free : Addr → Prop}
    (hy : plainName y.cls = true) (hw : ws = Cond.code y cc maxL ret :: ws') (hle : (lg_sl av).length ≤ maxL)
    (body : ∀ (p : Program) (e : Env) (s : State) (m : MethodId) (args : Array Value) (below : List Frame) (meth : Method) (c : Code) (ls : Array Slot),
      CallFix p m c cc maxL s args ws y.cls → meth.sig.returnType = ret → meth.locks = false → meth.name = y.name → Bp s → lv_has ls maxL (lv_args 0 av) →
      W p l e rm s m args below meth c s.heap [] 0 0 (MQ below Qc args s mc ms free) (F0 m 0 ls [])) : Met l y ws rm (va_Pc av Bp) Qc mc ms free := by
  refine Met.ofW (cc := cc) (maxL := maxL) (ret := ret) hy hw ?_
  intro p e s m args below meth c s₁ B hml hv
  obtain ⟨rfl, hB⟩ := hv
  have hl := lv_entry av (n := maxL) hle
  rw [lg_entry_eq]
  exact body p e s m _ below meth c _ ⟨B.exec, B.bytes, hml, findClass_of_methodNamed B.named, atoms_spec (ws := ws) B.pre⟩ B.returns B.notSynchronized (name_of_methodNamed B.named B.method).1 hB hl
