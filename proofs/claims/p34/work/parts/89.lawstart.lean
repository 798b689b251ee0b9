/-! 89: the law, from its entry to its end -/
def AL (s : State) : Nat → Prop := fun q => s.heap.size ≤ q
theorem upn_nq {α : Type} {f : Nat → α} {n k : Nat} {x : α} (h : k ≠ n) : upn f n x k = f k := if_neg h
theorem upn_at {α : Type} {f : Nat → α} {n : Nat} {x : α} : upn f n x n = x := if_pos rfl
set_option maxRecDepth 100000 in
set_option maxHeartbeats 4000000 in
theorem law_start {p : Program} {l : Launch} {e : Env} {s : State} {m : MethodId} {below : List Frame} {meth : Method} {c : Code} {b L : Nat} {xs : Nat → Int32} {Q : State → Prop} (hL : L ≤ 260) (hx : p.tables.exec = Jvm.exec) (hb : c.code = code) (hml : c.maxLocals = 13) (hown : s.vm.findClass RL = some m.cls)
    (htb : ∀ w ∈ lw_tbl, w.before #[Value.ref b] s = true) (hsc : va_X b L xs s s.heap) (hbl : b < s.heap.size)
    (kend : ∀ (H : Heap) (locs : List Loc) (ls : Array Slot), va_S (AL s) s.heap H locs → W p l e room_1 s m #[Value.ref b] below meth c H locs 600130 7301080 Q (F0 m 489 ls [.int 1])) :
    W p l e room_1 s m #[Value.ref b] below meth c s.heap [] 0 0 Q (entryFrame m ([Value.ref b] : List Value).toArray 13) := by
  have S : CallFix p m c cL_law 13 s #[Value.ref b] wsL_law RL := ⟨hx, hb, hml, hown, fun w hw => htb w (wsL_law_in w hw)⟩
  have hts := S.2.2.2.2
  obtain ⟨D, cI, cII, hK⟩ := st_K htb
  have hAO : va_AOA .int s := va_AOA.of (ty := .int) (tb_at htb 28 (by decide +kernel))
  have hA2 : ∀ q, s.heap.size ≤ q → AL s q := fun _ h => h
  have hbA : ¬ AL s b := Nat.not_le.mpr hbl
  have hl := lv_entry ([.ref b]) (n := 13) (Nat.le_of_ble_eq_true rfl)
  rw [lg_entry_eq]
  generalize (lg_sl ([.ref b]) ++ List.replicate (13 - (lg_sl ([.ref b])).length) Slot.unset).toArray = ls at hl ⊢
  have hl : lv_has ls 13 [(0, .ref b)] := hl
  have hS : va_S (AL s) s.heap s.heap [] := va_S.rf
  have hP : va_P D vwCl (gw 0 (fun _ => 0) (fun _ => .inr (0, []))) s.heap := pw_to fun k hk => absurd hk (Nat.not_lt_zero k)
  have hD : va_D (AL s) (gw 0 (fun _ => 0) (fun _ => .inr (0, []))) := gw_D (fun i j hi => absurd hi (Nat.not_lt_zero i)) (fun k hk => absurd hk (Nat.not_lt_zero k))
  refine k_new (ci := 3) (N := 3) (index := 20) (C := RX3) (T := TX3) (fs := [.null, .null, .null]) tyX3 S hK inlX3 tyX3_ok (by decide +kernel) (by decide +kernel) (by decide +kernel) hP hD hA2 hS rfl (fun j hj => by rcases (show j = 0 ∨ j = 1 ∨ j = 2 by omega) with rfl | rfl | rfl <;> rfl) (Nat.le_of_ble_eq_true rfl) (Nat.le_of_ble_eq_true rfl) dL_law_0 (fun q1 H hP hD hS => ?_)
  refine lv_dup hx hb dL_law_3 rfl ?_
  have hPc : va_P D vwCl (gw 1 (fun _ => q1) fun _ => (.inr (3, [.null, .null, .null]))) H := pw_to fun k hk => pw_of hP (k := 0) (by decide)
  have hge : ∀ z, H.size ≤ z → AL s z := fun z h => Nat.le_trans hS.1 h
  have hq1 : AL s q1 := D_A hD 0 (by decide)
  have hFc : ∀ z, cA q1 H.size z → AL s z := fun z h => h.elim (fun h => by rw [h]; exact hq1) (hge z)
  refine va_callv (va_runI (As := []) (rest := [.ref q1]) S (met_X3_init l D cI cII q1 H.size) (cwI 0 S.2.2.2.2 gL_law_X3_init rfl rfl rfl (hts (.initialized RX3) (by decide +kernel)) (hts (.methodLink RL 36 yX3_init) (by decide +kernel)) (hts (.instanceMethod yX3_init) (by decide +kernel)) rfl (by decide +kernel) ⟨Nat.le_of_ble_eq_true rfl, Nat.le_of_ble_eq_true rfl⟩) ⟨cP.blind, fun U hU hW => ⟨rfl, by rw [hU], ⟨by rw [hU]; exact hPc, KX.warm hW hK⟩, va_AOA.warm hW hAO⟩⟩ rfl rfl hl.1 rfl (lv_room (Nat.le_of_ble_eq_true rfl)) dL_law_4 ⟨Nat.le_of_ble_eq_true rfl, Nat.le_of_ble_eq_true rfl⟩) hS (fun z _ h => hFc z h) hFc (fun u t H1 locs1 ht hvm hw hB hz1 hk1 hS1 => ?_)
  obtain ⟨w0, wI, wA, wX⟩ := hw
  obtain ⟨κ, σ⟩ := u
  have w0 : κ 0 = q1 := w0
  have wI : Inj 31 κ := wI
  have wX : XI σ 1 T0 none := wX
  have hP1 : va_P D vwCl (gw 31 κ (xC cI cII κ σ)) H1 := by rw [← ht]; exact hB.1
  have hD1 : va_D (AL s) (gw 31 κ (xC cI cII κ σ)) := gw_D wI (fun k hk => hFc _ (wA k hk))
  refine lv_astore_n (lv' := [(1, .ref q1), (0, .ref b)]) hx hb dL_law_7 rfl hl (by decide) rfl (fun ls hl => ?_)
  refine lv_bipush (v := 72) hx hb dL_law_8 (by decide) ?_
  refine k_newa (N := 72) S hK (by decide +kernel) hP1 hD1 hA2 hS1 (by decide) (by decide) (by decide) (Nat.le_of_ble_eq_true rfl) (Nat.le_of_ble_eq_true rfl) dL_law_10 (fun q2 H2 hP2 hD2 hS2 => ?_)
  refine lv_astore_n (lv' := [(2, .ref q2), (1, .ref q1), (0, .ref b)]) hx hb dL_law_12 rfl hl (by decide) rfl (fun ls hl => ?_)
  have hl : lv_has ls 13 [(2, .ref (upn κ 31 q2 31)), (1, .ref (upn κ 31 q2 0)), (0, .ref b)] := by
    rw [upn_at, upn_nq (by decide), w0]; exact hl
  have hX : XI ((σ.1, fun a => if a = 31 then fun _ => 0 else σ.2 a) : SX) 1 T0 none := XI_31 wX rfl (fun a ha => if_neg ha)
  have hP : va_P D vwCl (gw 32 (upn κ 31 q2) (xC cI cII (upn κ 31 q2) (σ.1, fun a => if a = 31 then fun _ => 0 else σ.2 a))) H2 := pw_to fun k hk => by
    by_cases c : k < 31
    · have := pw_of hP2 (k := k) hk
      rw [upn_nq (by omega), upn_nq (by omega)] at this
      exact xk_at (σ := σ) c (fun j hj => upn_nq (by omega)) rfl (fun a ha => show (if a = 31 then fun _ => 0 else σ.2 a) = σ.2 a from if_neg (by omega)) this
    · obtain rfl : k = 31 := by omega
      have := pw_of hP2 (k := 31) hk
      rw [upn_at, upn_at] at this
      rw [upn_at, xC_arr (by decide) (len := 72) rfl]
      exact this
  obtain ⟨σ', hf⟩ := law_ok (L := L) (xs := xs) hX
  refine W.widen (k := 600130) (n := 7301080) (Nat.le_of_ble_eq_true rfl) (Nat.le_of_ble_eq_true rfl) ?_
  refine wk_L_law (D_inj hD2) S hK hP (D_A hD2) hS2 hl hf (by omega) hsc hbl hbA (fun H locs ls v hz hP hS => ?_)
  rw [(zr_w hz).1]
  exact kend H locs ls hS
