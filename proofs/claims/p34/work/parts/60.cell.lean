/-! 60: the law's cell -/
theorem nI_clp {k : Int32} (h : ¬ k < 0) : nI k.toNatClampNeg = k ∧ k.toNatClampNeg < 2 ^ 31 := by
  have h0 : (0 : Int) ≤ k.toInt := by
    have : ¬ k.toInt < (0 : Int32).toInt := fun q => h (Int32.lt_iff_toInt_lt.mpr q)
    have e : (0 : Int32).toInt = 0 := by decide
    omega
  have h1 := Int32.toInt_lt k
  have h2 : k.toNatClampNeg = k.toInt.toNat := rfl
  have h3 : k.toNatClampNeg < 2 ^ 31 := by omega
  refine ⟨Int32.toInt_inj.mp ?_, h3⟩
  rw [nI_toInt h3]
  omega
set_option maxRecDepth 100000 in
set_option maxHeartbeats 4000000 in
theorem met_L_cell (l : Launch) (b L : Nat) (xs : Nat → Int32) (hL : L < 2 ^ 31) (k : Int32) (hk : ¬ k < 0) : Met l yL_cell wsL_cell ({ frames := 0, cells := 0, slots := 0, locals := 0 } : Room) (va_Pc [.ref b, .int k] (cS b L xs)) (va_Qi (fun (r' : Int32) (_ : Unit) => r' = celv L xs k) (fun _ _ => True) (fun _ => False)) 0 0 (fun _ => False) := by
  refine g_enter (cc := cL_cell) (maxL := 2) (ret := (some .int)) (by decide) rfl (Nat.le_of_ble_eq_true rfl) ?_
  intro p e s m args below meth c ls S hr hlk _ hB hl
  have S : CallFix p m c cL_cell 2 s args wsL_cell RL := S
  obtain ⟨hsX, hbl⟩ := hB
  have hl : lv_has ls 2 [(0, .ref b), (1, .int k)] := hl
  have hS : va_S (fun _ => False) s.heap s.heap [] := va_S.rf
  obtain ⟨hx, hb, hml, hown, hts⟩ := id S
  refine lv_iload_n hx hb dL_cell_0 rfl (lv_at hl 1 rfl) ?_
  refine lv_aload_n hx hb dL_cell_1 rfl (lv_at hl 0 rfl) ?_
  refine va_slen hx hb hsX hbl (fun h => h) hS dL_cell_2 ?_
  refine lv_icmp_ge (tgt := 12) hx hb dL_cell_3 (by decide) (fun c1 => ?_) (fun c1 => ?_)
  · refine lv_ldc (v := 790386105) hx hb hown (hts (.constant RL 8 790386105) (by decide +kernel)) dL_cell_12 ?_
    refine lv_iload_n hx hb dL_cell_14 rfl (lv_at hl 1 rfl) ?_
    refine lv_iconst (v := 3) hx hb dL_cell_15 (by decide) ?_
    refine lv_iadd hx hb dL_cell_16 ?_
    refine lv_imul hx hb dL_cell_17 ?_
    exact W.iret S.1 S.2.1 hr (fun t ht hW => ⟨⟨_, (), rfl, (if_pos c1).symm, trivial⟩, hS.F ht⟩) hS.2.2 dL_cell_18 hlk
  · have hin : vp_in k L := fun q => q.elim hk (fun q => c1 (by
      obtain ⟨e1, e2⟩ := nI_clp hk
      rw [← e1]
      exact nI_le q e2))
    refine lv_aload_n hx hb dL_cell_6 rfl (lv_at hl 0 rfl) ?_
    refine lv_iload_n hx hb dL_cell_7 rfl (lv_at hl 1 rfl) ?_
    refine va_sld hx hb hsX hbl (fun h => h) hS hin dL_cell_8 ?_
    refine lv_goto (tgt := 18) hx hb dL_cell_9 (by decide) ?_
    exact W.iret S.1 S.2.1 hr (fun t ht hW => ⟨⟨_, (), rfl, (if_neg c1).symm, trivial⟩, hS.F ht⟩) hS.2.2 dL_cell_18 hlk
theorem k_cell {p : Program} {l : Launch} {e : Env} {R : Room} {s : State} {m : MethodId} {args : Array Value} {below : List Frame} {meth : Method} {c : Code} {H : Heap} {locs : List Loc} {cells slots : Nat} {Q : State → Prop} {cc : ByteArray} {pc : Nat} {ls : Array Slot} {rest : List Value} {A : Nat → Prop} {nL : Nat} {Ts : List Cond} {own : String} {index b L : Nat} {xs : Nat → Int32} {k : Int32} {D : va_G} {n : Nat} {κ : Nat → Nat} {f : Nat → va_E}
    (S : CallFix p m c cc nL s args Ts own) (g : GoodIn Ts (va_wsS own index yL_cell wsL_cell)) (hL : L < 2 ^ 31) (hk : ¬ k < 0) (hsX : va_X b L xs s s.heap) (hbl : b < s.heap.size) (hbA : ¬ A b) (hP : va_P D vwCl (gw n κ f) H) (hS : va_S A s.heap H locs) (hsize : ls.size = nL)
    (hW : 2 * (F0 m pc ls (.int k :: .ref b :: rest)).monitorRoom + (rest.map fun v => v.category).sum ≤ 8) (hrm : 1 ≤ R.frames ∧ 21 ≤ R.locals) (hcs : cells ≤ R.cells ∧ slots ≤ R.slots) (hdg : decode cc pc = .ok (.invokestatic index, 3))
    (kk : ∀ (H : Heap) (locs : List Loc), va_P D vwCl (gw n κ f) H → va_S A s.heap H locs → W p l e R s m args below meth c H locs cells slots Q (F0 m (pc + 3) ls (.int (celv L xs k) :: rest))) : W p l e R s m args below meth c H locs cells slots Q (F0 m pc ls (.int k :: .ref b :: rest)) := by
  refine va_calli (A0 := A) (H0 := s.heap) (va_runS (As := [.ref b, .int k]) (rest := rest) S (met_L_cell l b L xs hL k hk) (va_cwS 2 S.2.2.2.2 g rfl rfl rfl (by decide +kernel) hrm) ⟨cS.blind, fun U hU hW => ⟨rfl, by rw [hU]; exact va_X.moved hW.alike (hsX.kept (hS.2.1 b hbl hbA)), by rw [hU]; exact Nat.lt_of_lt_of_le hbl hS.1⟩⟩ rfl rfl hsize rfl hW hdg hcs) hS (fun q _ h => h.elim) (fun q h => h.elim) (fun r u t H1 locs1 ht hvm hp _ hz hk1 hS1 => ?_)
  subst hp
  exact kk H1 locs1 (fun k q h => (hP k q h).kept (hk1 _ (hP k q h).lt (fun h => h))) hS1
