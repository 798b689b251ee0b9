/-! 73: rows that make objects and arrays -/
theorem va_AOA.moved {ty : FieldType} {u U : State} (hvm : u.vm.Alike U.vm) (h : va_AOA ty u) : va_AOA ty U := by
  unfold va_AOA Cond.before Cond.holds at h
  simp only [Cond.value, beq_iff_eq] at h
  cases hc : u.vm.findClass (FieldType.array ty).toString with
  | none => simp [hc] at h
  | some comp =>
    simp only [hc, Option.bind_some, Option.bind_eq_some_iff, Option.map_eq_some_iff] at h
    obtain ⟨c, hi, k, hk, hb⟩ := h
    obtain ⟨k', hk', he⟩ := hvm.2.2 _ _ hk
    have hi2 : (U.vm.classes.findIdx? fun (x : Class) => match x.kind with | .array component _ => component == comp | _ => false) = some c := by
      have e1 := va_idx_bare U.vm comp
      have e2 := va_idx_bare u.vm comp
      have e3 : U.vm.bare = u.vm.bare := by first | exact hvm.bare_eq | exact hvm.bare_eq.symm
      rw [e3] at e1
      exact e1.symm.trans (e2.trans hi)
    have hkind : k'.kind = k.kind := by rw [he]
    have f1 : U.vm.findClass (FieldType.array ty).toString = some comp := by rw [hvm.findClass]; exact hc
    unfold va_AOA Cond.before Cond.holds
    simp only [Cond.value]
    rw [f1, Option.bind_some]
    refine (congrArg (fun o : Option Nat => (o.bind (fun c => (U.vm.classes[c]?).map fun (k : Class) => match k.kind with | .array _ ty' => decide (ty' = FieldType.array ty) && decide (U.vm.findClass ("[" ++ (FieldType.array ty).toString) = some c) | _ => false) == some true)) hi2).trans ?_
    rw [Option.bind_some, hk', Option.map_some, hkind, hvm.findClass]
    exact (congrArg (fun b : Bool => (some b == some true)) hb).trans rfl
theorem va_AOA.warm {ty : FieldType} {s U : State} (hW : s.WarmedH U.vm) (h : va_AOA ty s) : va_AOA ty U := va_AOA.moved hW.alike h
theorem D_inj {A : Nat → Prop} {n : Nat} {κ : Nat → Nat} {f : Nat → va_E} (h : va_D A (gw n κ f)) : Inj n κ := fun i j hi hj e => h.1 i j _ _ (gw_at hi) (gw_at hj) e
theorem D_A {A : Nat → Prop} {n : Nat} {κ : Nat → Nat} {f : Nat → va_E} (h : va_D A (gw n κ f)) : ∀ k, k < n → A (κ k) := fun k hk => h.2 k _ (gw_at hk)
def upn {α : Type} (f : Nat → α) (n : Nat) (x : α) : Nat → α := fun k => if k = n then x else f k
theorem gw_congr {n : Nat} {κ κ' : Nat → Nat} {f f' : Nat → va_E} (h1 : ∀ k, k < n → κ k = κ' k) (h2 : ∀ k, k < n → f k = f' k) : gw n κ f = gw n κ' f' := by
  unfold gw
  exact List.map_congr_left fun k hk => by rw [h1 k (List.mem_range.mp hk), h2 k (List.mem_range.mp hk)]
theorem gw_snoc {n : Nat} {κ : Nat → Nat} {f : Nat → va_E} {q : Nat} {x : va_E} : gw n κ f ++ [(q, x)] = gw (n + 1) (upn κ n q) (upn f n x) := by
  have e : gw (n + 1) (upn κ n q) (upn f n x) = gw n (upn κ n q) (upn f n x) ++ [(upn κ n q n, upn f n x n)] := by
    unfold gw
    rw [List.range_succ, List.map_append]; rfl
  have e2 : gw n (upn κ n q) (upn f n x) = gw n κ f := gw_congr (fun k hk => if_neg (by omega)) (fun k hk => if_neg (by omega))
  rw [e, e2]
  rw [show upn κ n q n = q from if_pos rfl, show upn f n x n = x from if_pos rfl]
theorem vp_outer (c : ClassId) (r : Nat → Nat) : vp_cell c (6, .inr (.inr (.inr (.inr (fun i => if i < 6 then some (r i) else none))))) = vp_cell c (6, .inr (.inr (.inr (.inr (fun i => some (r i)))))) := by
  rfl
section CT
variable {p : Program} {l : Launch} {e : Env} {R : Room} {s : State} {m : MethodId} {args : Array Value} {below : List Frame} {meth : Method} {c : Code} {H : Heap} {locs : List Loc} {cells slots : Nat} {Q : State → Prop}
variable {cc : ByteArray} {pc : Nat} {ls : Array Slot} {rest : List Value} {D : va_G} {A : Nat → Prop} {n : Nat} {κ : Nat → Nat} {f f' : Nat → va_E} {cI cII : ClassId} {nL : Nat} {Ts : List Cond} {own : String}
theorem k_newa {N : Nat} {i : Int32} (S : CallFix p m c cc nL s args Ts own) (hK : KX D cI cII s) (harr : Cond.arrayClass .int ∈ Ts) (hP : va_P D vwCl (gw n κ f) H) (hD : va_D A (gw n κ f)) (hA2 : ∀ q, s.heap.size ≤ q → A q) (hS : va_S A s.heap H locs)
    (hn : ¬ i < 0) (hN : i.toNatClampNeg = N) (hby : N * 4 ≤ 536870912) (hc : cells + 1 ≤ R.cells) (hs : slots + N ≤ R.slots) (hdg : decode cc pc = .ok (.newarray .int, 2))
    (kk : ∀ (q : Nat) (H1 : Heap), va_P D vwCl (gw (n + 1) (upn κ n q) (upn f n (.inl (cI, N, .inl fun _ => 0)))) H1 → va_D A (gw (n + 1) (upn κ n q) (upn f n (.inl (cI, N, .inl fun _ => 0)))) → va_S A s.heap H1 locs →
      W p l e R s m args below meth c H1 locs (cells + 1) (slots + N) Q (F0 m (pc + 2) ls (.ref q :: rest))) : W p l e R s m args below meth c H locs cells slots Q (F0 m pc ls (.int i :: rest)) := by
  refine va_newa (atype := .int) (ty := .int) (a0 := (N, .inl fun _ => 0)) S.1 S.2.1 (S.2.2.2.2 _ harr) rfl hK.1 hP hD hS hA2 (fun cA => rfl) hn hN hby hc hs hdg (fun q cA H1 hK1 hP1 hD1 hS1 => ?_)
  have h1 : s.vm.findClass "[I" = some cI := (hK.1.2 0 _ rfl).2
  have h2 : s.vm.findClass "[I" = some cA := (hK1.2 2 _ rfl).2
  cases h1.symm.trans h2
  rw [gw_snoc] at hP1 hD1
  exact kk q H1 hP1 hD1 hS1
theorem k_new {ci N index : Nat} {C : String} {T : u_T} {fs : List Value} (ty : Nat → FieldType) (S : CallFix p m c cc nL s args Ts own) (hK : KX D cI cII s) (hin : ∀ w ∈ u_ws C T N, w ∈ Ts) (hty : ∀ k, k < N → parseFieldDescriptor (T k).2.2.1 = some (ty k))
    (hcl : Cond.classLink own index C ∈ Ts) (hinst : Cond.instantiable C N ∈ Ts) (hini : Cond.initialized C ∈ Ts) (hP : va_P D vwCl (gw n κ f) H) (hD : va_D A (gw n κ f)) (hA2 : ∀ q, s.heap.size ≤ q → A q) (hS : va_S A s.heap H locs)
    (hci : vwCl[ci]? = some (C, T, N)) (hfs : ∀ j, j < N → defaultValue (ty j) = vp_V fs j) (hc : cells + 1 ≤ R.cells) (hs : slots + N ≤ R.slots) (hdg : decode cc pc = .ok (.new index, 3))
    (kk : ∀ (q : Nat) (H1 : Heap), va_P D vwCl (gw (n + 1) (upn κ n q) (upn f n (.inr (ci, fs)))) H1 → va_D A (gw (n + 1) (upn κ n q) (upn f n (.inr (ci, fs)))) → va_S A s.heap H1 locs →
      W p l e R s m args below meth c H1 locs (cells + 1) (slots + N) Q (F0 m (pc + 3) ls (.ref q :: rest))) : W p l e R s m args below meth c H locs cells slots Q (F0 m pc ls rest) := by
  refine va_new S.1 S.2.1 S.2.2.2.2 hin ty hty S.2.2.2.1 (S.2.2.2.2 _ hcl) (S.2.2.2.2 _ hinst) (S.2.2.2.2 _ hini) hK.1 hP hD hS hA2 hci hfs hc hs hdg (fun q H1 hP1 hD1 hS1 => ?_)
  rw [gw_snoc] at hP1 hD1
  exact kk q H1 hP1 hD1 hS1
theorem k_putF {q ci N k index : Nat} {C : String} {T : u_T} {fs : List Value} {v : Value} {ty : FieldType} {ty0 : Nat → FieldType} (S : CallFix p m c cc nL s args Ts own) (hK : KX D cI cII s) (hP : va_P D vwCl (gw n κ f) H) (hD : va_D A (gw n κ f)) (hS : va_S A s.heap H locs)
    (hin : ∀ w ∈ u_ws C T N, w ∈ Ts) (hty : ∀ k, k < N → parseFieldDescriptor (T k).2.2.1 = some (ty0 k)) (hnm : ∀ a, a < N → ∀ b, b < N → a ≠ b → (T a).2.1 ≠ (T b).2.1)
    (hq : q < n) (hfq : f q = .inr (ci, fs)) (hc : vwCl[ci]? = some (C, T, N)) (hk : k < N) (hlink : Cond.fieldLink own index (T k).1 (T k).2.1 (T k).2.2.1 ∈ Ts) (hfin : (T k).2.2.2 = true) (hin2 : meth.name = "<init>") (hdecl : (T k).1 = own)
    (hd : parseFieldDescriptor (T k).2.2.1 = some ty) (hn : narrow ty v = v) (hfit : fits ty v = true) (hl : k < fs.length) (hf' : ∀ j, j < n → f' j = if j = q then .inr (ci, fs.set k v) else f j) (hdg : decode cc pc = .ok (.putfield index, 3))
    (kk : ∀ (H : Heap) (locs : List Loc), va_P D vwCl (gw n κ f') H → va_D A (gw n κ f') → va_S A s.heap H locs → W p l e R s m args below meth c H locs cells slots Q (F0 m (pc + 3) ls rest)) : W p l e R s m args below meth c H locs cells slots Q (F0 m pc ls (v :: .ref (κ q) :: rest)) := by
  refine va_putF S.1 S.2.1 S.2.2.2.2 hin ty0 hty hnm S.2.2.2.1 hK.1 hP hD hS q (by rw [gw_at hq, hfq]) hc k hk (S.2.2.2.2 _ hlink) (fun _ h9 => h9) hfin hin2 hdecl hd hn hfit hl hdg (fun H1 locs1 hP1 hD1 hS1 => kk H1 locs1 ?_ ?_ hS1)
  · rw [gw_set hq hf'] at hP1; exact hP1
  · rw [gw_set hq hf'] at hD1; exact hD1
/-- new int[6][K'] -/
def up7 {α : Type} (f : Nat → α) (n : Nat) (x : α) (r : Nat → α) : Nat → α := fun k => if k < n then f k else if k = n then x else r (k - (n + 1))
theorem gw_7 {n : Nat} {κ : Nat → Nat} {f : Nat → va_E} {q : Nat} {x y : va_E} {r : Nat → Nat} : (gw n κ f ++ [(q, x)]) ++ ((List.range 6).map r).map (fun a => (a, y)) = gw (n + 7) (up7 κ n q r) (up7 f n x fun _ => y) := by
  have e : gw (n + 7) (up7 κ n q r) (up7 f n x fun _ => y) = gw (n + 1) (up7 κ n q r) (up7 f n x fun _ => y) ++ ((List.range 6).map fun i => (r i, y)) := by
    unfold gw
    rw [show n + 7 = (n + 1) + 6 by omega, List.range_add, List.map_append, List.map_map]
    congr 1
    refine List.map_congr_left fun i _ => ?_
    show (up7 κ n q r (n + 1 + i), up7 f n x (fun _ => y) (n + 1 + i)) = (r i, y)
    unfold up7
    rw [if_neg (by omega), if_neg (by omega), if_neg (by omega), if_neg (by omega), show n + 1 + i - (n + 1) = i by omega]
  have e2 : gw (n + 1) (up7 κ n q r) (up7 f n x fun _ => y) = gw (n + 1) (upn κ n q) (upn f n x) := gw_congr (fun k hk => by
    unfold up7 upn
    by_cases c : k = n
    · rw [if_neg (by omega), if_pos c, if_pos c]
    · rw [if_pos (by omega), if_neg c]) (fun k hk => by
    unfold up7 upn
    by_cases c : k = n
    · rw [if_neg (by omega), if_pos c, if_pos c]
    · rw [if_pos (by omega), if_neg c])
  rw [e, e2, ← gw_snoc, List.map_map]; rfl
theorem eII : "[" ++ (FieldType.array .int).toString = "[[I" := by decide +kernel
theorem eI : (FieldType.array .int).toString = "[I" := by decide +kernel
theorem k_mna {K' index : Nat} {i k : Int32} (S : CallFix p m c cc nL s args Ts own) (hK : KX D cI cII s) (hAOA : va_AOA .int s) (harr : Cond.arrayClass .int ∈ Ts) (hcl : Cond.classLink own index "[[I" ∈ Ts) (hP : va_P D vwCl (gw n κ f) H) (hD : va_D A (gw n κ f)) (hA2 : ∀ q, s.heap.size ≤ q → A q) (hS : va_S A s.heap H locs)
    (hn : ¬ i < 0) (hk : ¬ k < 0) (hN : i.toNatClampNeg = 6) (hM : k.toNatClampNeg = K') (hby : K' * 4 ≤ 536870912) (hc : cells + (1 + 6) ≤ R.cells) (hs : slots + (6 + 6 * K') ≤ R.slots) (hz : ∀ c : ClassId, Jvm.Free.Multi.innerC c K' (defaultValue .int) = vp_cell c (K', .inl fun _ => 0)) (hdg : decode cc pc = .ok (.multianewarray index 2, 4))
    (kk : ∀ (q : Nat) (r : Nat → Nat) (H1 : Heap), va_P D vwCl (gw (n + 7) (up7 κ n q r) (up7 f n (.inl (cII, 6, .inr (.inr (.inr (.inr (fun i => some (r i))))))) fun _ => .inl (cI, K', .inl fun _ => 0))) H1 →
      va_D A (gw (n + 7) (up7 κ n q r) (up7 f n (.inl (cII, 6, .inr (.inr (.inr (.inr (fun i => some (r i))))))) fun _ => .inl (cI, K', .inl fun _ => 0))) → va_S A s.heap H1 locs →
      W p l e R s m args below meth c H1 locs (cells + 1 + 6) (slots + 6 + 6 * K') Q (F0 m (pc + 4) ls (.ref q :: rest))) : W p l e R s m args below meth c H locs cells slots Q (F0 m pc ls (.int k :: .int i :: rest)) := by
  have h1 : s.vm.findClass "[I" = some cI := (hK.1.2 0 _ rfl).2
  have hcl' : (Cond.classLink own index ("[" ++ (FieldType.array .int).toString)).before args s = true := by rw [eII]; exact S.2.2.2.2 _ hcl
  have e0 : gw n κ f ++ va_pl [] (fun _ => .inl (cI, K', .inl fun _ => 0)) = gw n κ f := List.append_nil _
  refine va_mna (X := gw n κ f) (L := []) (f := fun _ => .inl (cI, K', .inl fun _ => 0)) (ty := .int) (cy := cI) (z := (K', .inl fun _ => 0)) (N' := 6) (K' := K') S.1 S.2.1 S.2.2.2.1 hcl' hAOA (S.2.2.2.2 _ harr) (by rw [eI]; exact h1) hK.1 (by rw [e0]; exact hP) (by rw [e0]; exact hD) hS hA2 hn hk hN hM (by decide) hby (by omega) rfl rfl hc hs hz hdg (fun q r cA H1 hr1 hr2 hK2 hP2 hD2 hS2 => ?_)
  have h3 : s.vm.findClass ("[" ++ (FieldType.array .int).toString) = some cII := (hK.1.2 1 _ rfl).2
  have h4 : s.vm.findClass ("[" ++ (FieldType.array .int).toString) = some cA := (hK2.2 2 _ rfl).2
  cases h3.symm.trans h4
  have e5 : va_pl ([] ++ (List.range 6).map r) (vr_up (fun _ => (.inl (cI, K', .inl fun _ => 0) : va_E)) ((List.range 6).map r) (.inl (cI, (K', .inl fun _ => 0)))) = ((List.range 6).map r).map (fun a => (a, (.inl (cI, K', .inl fun _ => 0) : va_E))) := by
    unfold va_pl
    rw [List.nil_append]
    exact List.map_congr_left fun a ha => by rw [vr_up_in ha]
  rw [e5, gw_7] at hP2 hD2
  refine kk q r H1 ?_ ?_ hS2
  · intro j z hj
    obtain ⟨g1, rfl⟩ := gw_of hj
    have g2 := hP2 j _ (gw_at g1)
    unfold up7 at g2 ⊢
    by_cases c1 : j < n
    · simp only [if_pos c1] at g2 ⊢; exact g2
    · by_cases c2 : j = n
      · simp only [if_neg c1, if_pos c2] at g2 ⊢
        exact g2
      · simp only [if_neg c1, if_neg c2] at g2 ⊢; exact g2
  · exact gw_D (D_inj hD2) (D_A hD2)
end CT
