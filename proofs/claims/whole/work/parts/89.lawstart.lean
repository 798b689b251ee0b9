/-! 89: the law, from its entry to its loop -/
set_option maxRecDepth 100000 in
set_option maxHeartbeats 4000000 in
theorem law_start {p : Program} {l : Launch} {e : Env} {s : State} {m : MethodId} {below : List Frame} {meth : Method} {c : Code} {b L : Nat} {xs : Nat → Int32} {Q : State → Prop} (hst : l.stackTraces = false) (hL : L ≤ 2048) (hx : p.tables.exec = Jvm.exec) (hb : c.code = code) (hml : c.maxLocals = 9) (hown : s.vm.findClass RL = some m.cls)
    (htb : ∀ w ∈ lw_tbl, w.before #[Value.ref b] s = true) (hsc : va_X b L xs s s.heap) (hbl : b < s.heap.size) (hgv : (Jvm.Cond.and given_1 narrow_1).before #[Value.ref b] s = true)
    (kend : ∀ (H : Heap) (locs : List Loc) (cells slots : Nat) (ls : Array Slot), va_S (AL s) s.heap H locs → cells ≤ 601024 → slots ≤ 7293034 → W p l e room_1 s m #[Value.ref b] below meth c H locs cells slots Q (F0 m 1636 ls [])) :
    W p l e room_1 s m #[Value.ref b] below meth c s.heap [] 0 0 Q (entryFrame m ([Value.ref b] : List Value).toArray 9) := by
  have S : CallFix p m c cL_law 9 s #[Value.ref b] wsL_law RL := ⟨hx, hb, hml, hown, fun w hw => htb w (wsL_law_in w hw)⟩
  have hts := S.2.2.2.2
  obtain ⟨D, cI, cII, hK⟩ := st_K htb
  have hX := st_TX htb hgv
  have hZ := st_ZX htb hgv
  have hN := st_NC hgv
  have hAO : va_AOA .int s := va_AOA.of (ty := .int) (tb_at htb 28 (by decide +kernel))
  have hA2 : ∀ q, s.heap.size ≤ q → AL s q := fun _ h => h
  have hl := lv_entry ([.ref b]) (n := 9) (Nat.le_of_ble_eq_true rfl)
  rw [lg_entry_eq]
  generalize (lg_sl ([.ref b]) ++ List.replicate (9 - (lg_sl ([.ref b])).length) Slot.unset).toArray = ls at hl ⊢
  have hl : lv_has ls 9 [(0, .ref b)] := hl
  have hS : va_S (AL s) s.heap s.heap [] := va_S.rf
  have hP : va_P D vwCl (gw 0 (fun _ => 0) (fun _ => .inr (0, []))) s.heap := pw_to fun k hk => absurd hk (Nat.not_lt_zero k)
  have hD : va_D (AL s) (gw 0 (fun _ => 0) (fun _ => .inr (0, []))) := gw_D (fun i j hi => absurd hi (Nat.not_lt_zero i)) (fun k hk => absurd hk (Nat.not_lt_zero k))
  refine k_new (ci := 3) (N := 3) (index := 8) (C := RX3) (T := TX3) (fs := [.null, .null, .null]) tyX3 S hK inlX3 tyX3_ok (by decide +kernel) (by decide +kernel) (by decide +kernel) hP hD hA2 hS rfl (fun j hj => by rcases (show j = 0 ∨ j = 1 ∨ j = 2 by omega) with rfl | rfl | rfl <;> rfl) (Nat.le_of_ble_eq_true rfl) (Nat.le_of_ble_eq_true rfl) dL_law_0 (fun q1 H hP hD hS => ?_)
  refine lv_dup hx hb dL_law_3 rfl ?_
  have hPc : va_P D vwCl (gw 1 (fun _ => q1) fun _ => (.inr (3, [.null, .null, .null]))) H := pw_to fun k hk => pw_of hP (k := 0) (by decide)
  have hge : ∀ z, H.size ≤ z → AL s z := fun z h => Nat.le_trans hS.1 h
  have hq1 : AL s q1 := D_A hD 0 (by decide)
  have hFc : ∀ z, cA q1 H.size z → AL s z := fun z h => h.elim (fun h => by rw [h]; exact hq1) (hge z)
  refine va_callv (va_runI (As := []) (rest := [.ref q1]) S (met_X3_init l D cI cII q1 H.size) (cwI 0 S.2.2.2.2 gL_law_X3_init rfl rfl rfl (hts (.initialized RX3) (by decide +kernel)) (hts (.methodLink RL 88 yX3_init) (by decide +kernel)) (hts (.instanceMethod yX3_init) (by decide +kernel)) rfl (by decide +kernel) ⟨Nat.le_of_ble_eq_true rfl, Nat.le_of_ble_eq_true rfl⟩) ⟨cP.blind, fun U hU hW => ⟨rfl, by rw [hU], ⟨by rw [hU]; exact hPc, KX.warm hW hK⟩, va_AOA.warm hW hAO⟩⟩ rfl rfl hl.1 rfl (lv_room (Nat.le_of_ble_eq_true rfl)) dL_law_4 ⟨Nat.le_of_ble_eq_true rfl, Nat.le_of_ble_eq_true rfl⟩) hS (fun z _ h => hFc z h) hFc (fun u t H1 locs1 ht hvm hw hB hz1 hk1 hS1 => ?_)
  obtain ⟨w0, wI, wA, wX⟩ := hw
  obtain ⟨κ, σ⟩ := u
  have w0 : κ 0 = q1 := w0
  have wI : Inj 31 κ := wI
  have wX : XI σ 1 T0 none := wX
  have hP1 : va_P D vwCl (gw 31 κ (xC cI cII κ σ)) H1 := by rw [← ht]; exact hB.1
  have hD1 : va_D (AL s) (gw 31 κ (xC cI cII κ σ)) := gw_D wI (fun k hk => hFc _ (wA k hk))
  refine lv_astore_n (lv' := [(1, .ref q1), (0, .ref b)]) hx hb dL_law_7 rfl hl (by decide) rfl (fun ls hl => ?_)
  refine k_new (ci := 4) (N := 12) (index := 89) (C := RX4) (T := TX4) (fs := [.int 0, .int 0, .null, .int 0, .int 0, .null, .int 0, .int 0, .null, .int 0, .int 0, .null]) tyX4 S hK inlX4 tyX4_ok (by decide +kernel) (by decide +kernel) (by decide +kernel) hP1 hD1 hA2 hS1 rfl (fun j hj => by rcases (show j = 0 ∨ j = 1 ∨ j = 2 ∨ j = 3 ∨ j = 4 ∨ j = 5 ∨ j = 6 ∨ j = 7 ∨ j = 8 ∨ j = 9 ∨ j = 10 ∨ j = 11 by omega) with rfl | rfl | rfl | rfl | rfl | rfl | rfl | rfl | rfl | rfl | rfl | rfl <;> rfl) (Nat.le_of_ble_eq_true rfl) (Nat.le_of_ble_eq_true rfl) dL_law_8 (fun q4 H2 hP hD hS => ?_)
  refine lv_dup hx hb dL_law_11 rfl ?_
  have hPm : va_P D vwCl (gw 1 (fun _ => q4) fun _ => (.inr (4, [.int 0, .int 0, .null, .int 0, .int 0, .null, .int 0, .int 0, .null, .int 0, .int 0, .null]))) H2 := pw_to fun k hk => pw_of hP (k := 31) (by decide)
  have hge2 : ∀ z, H2.size ≤ z → AL s z := fun z h => Nat.le_trans hS.1 h
  have hq4 : AL s q4 := D_A hD 31 (by decide)
  have hFm : ∀ z, cA q4 H2.size z → AL s z := fun z h => h.elim (fun h => by rw [h]; exact hq4) (hge2 z)
  refine va_callv (va_runI (As := []) (rest := [.ref q4]) S (met_X4_init l D cI cII q4 H2.size) (cwI 0 S.2.2.2.2 gL_law_X4_init rfl rfl rfl (hts (.initialized RX4) (by decide +kernel)) (hts (.methodLink RL 91 yX4_init) (by decide +kernel)) (hts (.instanceMethod yX4_init) (by decide +kernel)) rfl (by decide +kernel) ⟨Nat.le_of_ble_eq_true rfl, Nat.le_of_ble_eq_true rfl⟩) ⟨cP.blind, fun U hU hW => ⟨rfl, by rw [hU], ⟨by rw [hU]; exact hPm, KX.warm hW hK⟩, va_AOA.warm hW hAO⟩⟩ rfl rfl hl.1 rfl (lv_room (Nat.le_of_ble_eq_true rfl)) dL_law_12 ⟨Nat.le_of_ble_eq_true rfl, Nat.le_of_ble_eq_true rfl⟩) hS (fun z _ h => hFm z h) hFm (fun um t2 H3 locs3 ht3 hvm3 hw3 hB3 hz3 hk3 hS3 => ?_)
  obtain ⟨y0, yI, yA, yM⟩ := hw3
  obtain ⟨κm, τ⟩ := um
  have y0 : κm 0 = q4 := y0
  have yI : Inj 5 κm := yI
  have yM : MI τ 1 T0 none := yM
  have hP3 : va_P D vwCl (gw 5 κm (mC cI cII κm τ)) H3 := by rw [← ht3]; exact hB3.1
  obtain ⟨hPj, hDj⟩ := k_join (n := 31) (mm := 5) hP hD hP3 y0 yI yA hk3 hge2
  refine lv_astore_n (lv' := [(2, .ref q4), (1, .ref q1), (0, .ref b)]) hx hb dL_law_15 rfl hl (by decide) rfl (fun ls hl => ?_)
  refine lv_iconst (v := 1) hx hb dL_law_16 (by decide) ?_
  refine va_newa (atype := .long) (ty := .long) (a0 := (1, .inr (.inl fun _ => 0))) (N' := 1) hx hb (hts (.arrayClass .long) (by decide +kernel)) rfl hK.1 hPj hDj hS3 hA2 (fun cA => rfl) (by decide) (by decide) (by decide) (Nat.le_of_ble_eq_true rfl) (Nat.le_of_ble_eq_true rfl) dL_law_17 (fun o cJ H4 hKJ hP4 hD4 hS4 => ?_)
  have hJ : va_K D vwCl [(cJ, .long)] s := hKJ.sub [2] rfl
  refine lv_astore_n (lv' := [(3, .ref o), (2, .ref q4), (1, .ref q1), (0, .ref b)]) hx hb dL_law_19 rfl hl (by decide) rfl (fun ls hl => ?_)
  refine lv_iconst (v := 0) hx hb dL_law_20 (by decide) ?_
  refine lv_istore (lv' := [(4, .int (nI (4 * 0))), (3, .ref o), (2, .ref q4), (1, .ref q1), (0, .ref b)]) hx hb dL_law_21 hl (by decide) rfl (fun ls hl => ?_)
  rw [gw_snoc] at hP4 hD4
  have k31 : ∀ k, k < 31 → upn (upj (upn κ 31 q4) 31 κm) 36 o k = κ k := fun k hk => by rw [upn_ne (by omega), upj_lt hk, upn_ne (by omega)]
  have k5 : ∀ k, k < 5 → upn (upj (upn κ 31 q4) 31 κm) 36 o (31 + k) = κm k := fun k hk => by rw [upn_ne (by omega), upj_ge (by omega), show 31 + k - 31 = k by omega]
  have k36 : upn (upj (upn κ 31 q4) 31 κm) 36 o 36 = o := if_pos rfl
  have hI := D_inj hD4
  have hAa := D_A hD4
  have hLS : LSt D cI cII cJ κ κm o σ τ 0 H4 := by
    refine ⟨pw_to fun k hk => ?_, pw_to fun k hk => ?_, ?_⟩
    · have := pw_of hP4 (k := k) (by omega)
      rw [k31 k hk, upn_ne (by omega), upj_lt hk, upn_ne (by omega)] at this
      exact this
    · have := pw_of hP4 (k := 31 + k) (by omega)
      rw [k5 k hk, upn_ne (by omega), upj_ge (by omega), show 31 + k - 31 = k by omega] at this
      exact this
    · have := pw_of hP4 (k := 36) (by omega)
      rw [k36] at this
      exact this
  have C : LawC p l s m #[Value.ref b] c D cI cII cJ κ κm o b L xs := by
    refine ⟨S, hst, hK, hX, hZ, hJ, hN, wI, yI, fun k hk => ?_, fun k hk => ?_, ?_, fun i hi j hj h => ?_, fun k hk h => ?_, fun k hk h => ?_, hsc, hbl⟩
    · have := hAa k (by omega); rwa [k31 k hk] at this
    · have := hAa (31 + k) (by omega); rwa [k5 k hk] at this
    · have := hAa 36 (by omega); rwa [k36] at this
    · rw [← k31 i hi, ← k5 j hj] at h
      have := hI _ _ (by omega) (by omega) h
      omega
    · rw [← k31 k hk] at h
      have := hI k 36 (by omega) (by omega) (h.trans k36.symm)
      omega
    · rw [← k5 k hk] at h
      have := hI (31 + k) 36 (by omega) (by omega) (h.trans k36.symm)
      omega
  have hl : lv_has ls 9 [(4, .int (nI (4 * 0))), (3, .ref o), (2, .ref (κm 0)), (1, .ref (κ 0)), (0, .ref b)] := by rw [y0, w0]; exact hl
  exact law_loop C hL kend 512 0 σ τ 0 1 T0 none H4 _ ls _ _ (by omega) (by omega) (Nat.le_of_ble_eq_true rfl) (Nat.le_of_ble_eq_true rfl) ⟨Nat.le_refl 1, by decide, fun l s t h => by cases h⟩ wX yM hLS hS4 hl
