/-! 85d: by wip/whole/gencase.py: the calls of the law, one by one -/
set_option maxRecDepth 100000 in
set_option maxHeartbeats 4000000 in
theorem case_24 {p : Program} {l : Launch} {e : Env} {s : State} {m : MethodId} {args : Array Value} {below : List Frame} {meth : Method} {c : Code} {H : Heap} {locs : List Loc} {cells slots : Nat} {Q : State → Prop} {ls : Array Slot} {D : va_G} {κ κm : Nat → Nat} {cI cII cJ : ClassId} {o b L I n : Nat} {xs : Nat → Int32} {σ τ : SX} {z : Int64} {T : TT} {mk : Option Nat} (C : LawC p l s m args c D cI cII cJ κ κm o b L xs) (hI : I + 4 ≤ L) (hLm : L ≤ 2048) (hc : cells + 4 ≤ 601024) (hs : slots + 32 ≤ 7293034) (hT : Sys n T) (h : XI σ n T mk) (g : MI τ n T mk) (hL : LSt D cI cII cJ κ κm o σ τ z H) (hS : va_S (AL s) s.heap H locs) (hl : lv_has ls 9 [(4, .int (nI I)), (3, .ref o), (2, .ref (κm 0)), (1, .ref (κ 0)), (0, .ref b)])
    (kk : ∀ (σ τ : SX) (z : Int64) (n : Nat) (T : TT) (mk : Option Nat) (H : Heap) (locs : List Loc) (ls : Array Slot), Sys n T → XI σ n T mk → MI τ n T mk → LSt D cI cII cJ κ κm o σ τ z H → va_S (AL s) s.heap H locs → lv_has ls 9 [(4, .int (nI I)), (3, .ref o), (2, .ref (κm 0)), (1, .ref (κ 0)), (0, .ref b)] → W p l e room_1 s m args below meth c H locs (cells + 4) (slots + 32) Q (F0 m 1630 ls [])) :
    W p l e room_1 s m args below meth c H locs cells slots Q (F0 m 1309 ls []) := by
  obtain ⟨S, hst, hK, hX, hZ, hJ, hN, hκ, hm, hA, hAm, hAo, hd, ho, hmo, hsc, hbl⟩ := id C
  have hbA : ¬ AL s b := Nat.not_le.mpr hbl
  obtain ⟨hx, hb, hml, hown, hts⟩ := id S
  refine lv_aload_n hx hb dL_law_1309 rfl (lv_at hl 3 rfl) ?_
  refine lv_aload_n hx hb dL_law_1310 rfl (lv_at hl 4 rfl) ?_
  refine lv_iload hx hb dL_law_1311 (lv_at hl 0 rfl) ?_
  refine lv_iconst (v := 1) hx hb dL_law_1313 (by decide) ?_
  refine lv_iadd hx hb dL_law_1314 ?_
  refine va_sld hx hb hsc hbl hbA hS (sc_in (k := 1) hI hLm (by decide)) dL_law_1315 ?_
  refine lv_aload_n hx hb dL_law_1316 rfl (lv_at hl 1 rfl) ?_
  obtain ⟨R9, σ', kk0, z', v, τ', n', T', mk', eX, eW, eM, hT', h', g', hkk, hz⟩ := sim_produced (z := z) hT h g (xs ((nI I) + 1).toNatClampNeg)
  refine r_wrap C hL hS (vx_runSX (As := [.ref (κ 0), .int (xs ((nI I) + 1).toNatClampNeg), .ref o]) (rest := []) S (lw_produced l hst D cI cII cJ κ hκ o ho σ (xs ((nI I) + 1).toNatClampNeg) z _ R9 σ' kk0 z' eX eW) (vx_cwSW 3 S.2.2.2.2 gL_law_L_produced rfl rfl rfl (by decide +kernel) ⟨Nat.le_of_ble_eq_true rfl, Nat.le_of_ble_eq_true rfl⟩) (r_preW C hL hS) rfl rfl hl.1 rfl (lv_room (Nat.le_of_ble_eq_true rfl)) dL_law_1317 ⟨(show cells + 2 ≤ 601024 by omega), (show slots + 12 ≤ 7293034 by omega)⟩) (fun H locs hL hS => ?_)
  refine lv_istore (lv' := [(5, .int kk0), (4, .int (nI I)), (3, .ref o), (2, .ref (κm 0)), (1, .ref (κ 0)), (0, .ref b)]) hx hb dL_law_1320 hl (by decide) rfl (fun ls hl => ?_)
  refine lv_aload_n hx hb dL_law_1322 rfl (lv_at hl 3 rfl) ?_
  refine lv_aload_n hx hb dL_law_1323 rfl (lv_at hl 5 rfl) ?_
  refine lv_iload hx hb dL_law_1324 (lv_at hl 1 rfl) ?_
  refine lv_iconst (v := 1) hx hb dL_law_1326 (by decide) ?_
  refine lv_iadd hx hb dL_law_1327 ?_
  refine va_sld hx hb hsc hbl hbA hS (sc_in (k := 1) hI hLm (by decide)) dL_law_1328 ?_
  refine r_modi C hL hS (va_runV (As := [.int (xs ((nI I) + 1).toNatClampNeg)]) (rest := []) S (met_X4_produced l D cI cII κm hm τ (xs ((nI I) + 1).toNatClampNeg) v τ' eM) (cwV 1 S.2.2.2.2 gL_law_X4_produced rfl rfl rfl (by decide +kernel) ⟨Nat.le_of_ble_eq_true rfl, Nat.le_of_ble_eq_true rfl⟩) (g_preV (N := 12) (T := TX4) hK hL.2.1 (Nat.le_refl _) (by decide) rfl rfl) rfl rfl hl.1 rfl (lv_room (Nat.le_of_ble_eq_true rfl)) dL_law_1329 ⟨(show cells + 2 + 0 ≤ 601024 by omega), (show slots + 12 + 0 ≤ 7293034 by omega)⟩) (fun H locs hL hS => ?_)
  refine lv_istore (lv' := [(6, .int v), (5, .int kk0), (4, .int (nI I)), (3, .ref o), (2, .ref (κm 0)), (1, .ref (κ 0)), (0, .ref b)]) hx hb dL_law_1332 hl (by decide) rfl (fun ls hl => ?_)
  refine lv_aload_n hx hb dL_law_1334 rfl (lv_at hl 4 rfl) ?_
  refine r_modi C hL hS (va_runV (As := []) (rest := []) S (met_X4_thrown l D cI cII κm hm τ' kk0 (show fn_X4_thrown τ' = some kk0 from congrArg some hkk)) (cwV 0 S.2.2.2.2 gL_law_X4_thrown rfl rfl rfl (by decide +kernel) ⟨Nat.le_of_ble_eq_true rfl, Nat.le_of_ble_eq_true rfl⟩) (g_preV (N := 12) (T := TX4) hK hL.2.1 (Nat.le_refl _) (by decide) rfl rfl) rfl rfl hl.1 rfl (lv_room (Nat.le_of_ble_eq_true rfl)) dL_law_1335 ⟨(show cells + 2 + 0 ≤ 601024 by omega), (show slots + 12 + 0 ≤ 7293034 by omega)⟩) (fun H locs hL hS => ?_)
  refine lv_iload hx hb dL_law_1338 (lv_at hl 1 rfl) ?_
  refine lv_icmp_eq (tgt := 1345) hx hb dL_law_1340 (by decide) (fun _ => ?_) (fun hh => absurd rfl hh)
  refine lv_iload hx hb dL_law_1345 (lv_at hl 1 rfl) ?_
  refine lv_if_ne (tgt := 1362) hx hb dL_law_1347 (by decide) (fun ck => ?_) (fun ck => ?_)
  · skip
    refine lv_goto (tgt := 1630) hx hb dL_law_1362 (by decide) ?_
    refine W.widen (k := cells + 4) (n := slots + 32) (by omega) (by omega) ?_
    exact kk _ _ _ _ _ _ _ _ _ hT' h' g' hL hS (lv_sub hl [2, 3, 4, 5, 6] rfl)
  · have hz := hz ck
    refine lv_aload_n hx hb dL_law_1350 rfl (lv_at hl 3 rfl) ?_
    refine lv_iconst (v := 0) hx hb dL_law_1351 (by decide) ?_
    refine r_lald C hL dL_law_1352 ?_
    refine lv_iload hx hb dL_law_1353 (lv_at hl 0 rfl) ?_
    refine lv_i2l (v := v.toInt64) hx hb dL_law_1355 rfl ?_
    rw [show z' = v.toInt64 from hz]
    refine lv_lcmp0 hx hb dL_law_1356 ?_
    refine lv_if_eq (tgt := 1362) hx hb dL_law_1357 (by decide) (fun _ => ?_) (fun hh => absurd rfl hh)
    refine lv_goto (tgt := 1630) hx hb dL_law_1362 (by decide) ?_
    refine W.widen (k := cells + 4) (n := slots + 32) (by omega) (by omega) ?_
    exact kk _ _ _ _ _ _ _ _ _ hT' h' g' hL hS (lv_sub hl [2, 3, 4, 5, 6] rfl)

set_option maxRecDepth 100000 in
set_option maxHeartbeats 4000000 in
theorem case_25 {p : Program} {l : Launch} {e : Env} {s : State} {m : MethodId} {args : Array Value} {below : List Frame} {meth : Method} {c : Code} {H : Heap} {locs : List Loc} {cells slots : Nat} {Q : State → Prop} {ls : Array Slot} {D : va_G} {κ κm : Nat → Nat} {cI cII cJ : ClassId} {o b L I n : Nat} {xs : Nat → Int32} {σ τ : SX} {z : Int64} {T : TT} {mk : Option Nat} (C : LawC p l s m args c D cI cII cJ κ κm o b L xs) (hI : I + 4 ≤ L) (hLm : L ≤ 2048) (hc : cells + 4 ≤ 601024) (hs : slots + 32 ≤ 7293034) (hT : Sys n T) (h : XI σ n T mk) (g : MI τ n T mk) (hL : LSt D cI cII cJ κ κm o σ τ z H) (hS : va_S (AL s) s.heap H locs) (hl : lv_has ls 9 [(4, .int (nI I)), (3, .ref o), (2, .ref (κm 0)), (1, .ref (κ 0)), (0, .ref b)])
    (kk : ∀ (σ τ : SX) (z : Int64) (n : Nat) (T : TT) (mk : Option Nat) (H : Heap) (locs : List Loc) (ls : Array Slot), Sys n T → XI σ n T mk → MI τ n T mk → LSt D cI cII cJ κ κm o σ τ z H → va_S (AL s) s.heap H locs → lv_has ls 9 [(4, .int (nI I)), (3, .ref o), (2, .ref (κm 0)), (1, .ref (κ 0)), (0, .ref b)] → W p l e room_1 s m args below meth c H locs (cells + 4) (slots + 32) Q (F0 m 1630 ls [])) :
    W p l e room_1 s m args below meth c H locs cells slots Q (F0 m 1365 ls []) := by
  obtain ⟨S, hst, hK, hX, hZ, hJ, hN, hκ, hm, hA, hAm, hAo, hd, ho, hmo, hsc, hbl⟩ := id C
  have hbA : ¬ AL s b := Nat.not_le.mpr hbl
  obtain ⟨hx, hb, hml, hown, hts⟩ := id S
  refine lv_aload_n hx hb dL_law_1365 rfl (lv_at hl 3 rfl) ?_
  refine lv_aload_n hx hb dL_law_1366 rfl (lv_at hl 1 rfl) ?_
  obtain ⟨R9, σ', kk0, z', v, τ', n', T', mk', eX, eW, eM, hT', h', g', hkk, hz⟩ := sim_marking (z := z) hT h g
  refine r_wrap C hL hS (vx_runSX (As := [.ref (κ 0), .ref o]) (rest := []) S (lw_marking l hst D cI cII cJ κ hκ o ho σ z _ R9 σ' kk0 z' eX eW) (vx_cwSW 2 S.2.2.2.2 gL_law_L_marking rfl rfl rfl (by decide +kernel) ⟨Nat.le_of_ble_eq_true rfl, Nat.le_of_ble_eq_true rfl⟩) (r_preW C hL hS) rfl rfl hl.1 rfl (lv_room (Nat.le_of_ble_eq_true rfl)) dL_law_1367 ⟨(show cells + 1 ≤ 601024 by omega), (show slots + 6 ≤ 7293034 by omega)⟩) (fun H locs hL hS => ?_)
  refine lv_istore (lv' := [(5, .int kk0), (4, .int (nI I)), (3, .ref o), (2, .ref (κm 0)), (1, .ref (κ 0)), (0, .ref b)]) hx hb dL_law_1370 hl (by decide) rfl (fun ls hl => ?_)
  refine lv_aload_n hx hb dL_law_1372 rfl (lv_at hl 3 rfl) ?_
  refine r_modi C hL hS (va_runV (As := []) (rest := []) S (met_X4_marking l D cI cII κm hm τ v τ' eM) (cwV 0 S.2.2.2.2 gL_law_X4_marking rfl rfl rfl (by decide +kernel) ⟨Nat.le_of_ble_eq_true rfl, Nat.le_of_ble_eq_true rfl⟩) (g_preV (N := 12) (T := TX4) hK hL.2.1 (Nat.le_refl _) (by decide) rfl rfl) rfl rfl hl.1 rfl (lv_room (Nat.le_of_ble_eq_true rfl)) dL_law_1373 ⟨(show cells + 1 + 0 ≤ 601024 by omega), (show slots + 6 + 0 ≤ 7293034 by omega)⟩) (fun H locs hL hS => ?_)
  refine lv_istore (lv' := [(6, .int v), (5, .int kk0), (4, .int (nI I)), (3, .ref o), (2, .ref (κm 0)), (1, .ref (κ 0)), (0, .ref b)]) hx hb dL_law_1376 hl (by decide) rfl (fun ls hl => ?_)
  refine lv_aload_n hx hb dL_law_1378 rfl (lv_at hl 4 rfl) ?_
  refine r_modi C hL hS (va_runV (As := []) (rest := []) S (met_X4_thrown l D cI cII κm hm τ' kk0 (show fn_X4_thrown τ' = some kk0 from congrArg some hkk)) (cwV 0 S.2.2.2.2 gL_law_X4_thrown rfl rfl rfl (by decide +kernel) ⟨Nat.le_of_ble_eq_true rfl, Nat.le_of_ble_eq_true rfl⟩) (g_preV (N := 12) (T := TX4) hK hL.2.1 (Nat.le_refl _) (by decide) rfl rfl) rfl rfl hl.1 rfl (lv_room (Nat.le_of_ble_eq_true rfl)) dL_law_1379 ⟨(show cells + 1 + 0 ≤ 601024 by omega), (show slots + 6 + 0 ≤ 7293034 by omega)⟩) (fun H locs hL hS => ?_)
  refine lv_iload hx hb dL_law_1382 (lv_at hl 1 rfl) ?_
  refine lv_icmp_eq (tgt := 1389) hx hb dL_law_1384 (by decide) (fun _ => ?_) (fun hh => absurd rfl hh)
  refine lv_iload hx hb dL_law_1389 (lv_at hl 1 rfl) ?_
  refine lv_if_ne (tgt := 1406) hx hb dL_law_1391 (by decide) (fun ck => ?_) (fun ck => ?_)
  · skip
    refine lv_goto (tgt := 1630) hx hb dL_law_1406 (by decide) ?_
    refine W.widen (k := cells + 4) (n := slots + 32) (by omega) (by omega) ?_
    exact kk _ _ _ _ _ _ _ _ _ hT' h' g' hL hS (lv_sub hl [2, 3, 4, 5, 6] rfl)
  · have hz := hz ck
    refine lv_aload_n hx hb dL_law_1394 rfl (lv_at hl 3 rfl) ?_
    refine lv_iconst (v := 0) hx hb dL_law_1395 (by decide) ?_
    refine r_lald C hL dL_law_1396 ?_
    refine lv_iload hx hb dL_law_1397 (lv_at hl 0 rfl) ?_
    refine lv_i2l (v := v.toInt64) hx hb dL_law_1399 rfl ?_
    rw [show z' = v.toInt64 from hz]
    refine lv_lcmp0 hx hb dL_law_1400 ?_
    refine lv_if_eq (tgt := 1406) hx hb dL_law_1401 (by decide) (fun _ => ?_) (fun hh => absurd rfl hh)
    refine lv_goto (tgt := 1630) hx hb dL_law_1406 (by decide) ?_
    refine W.widen (k := cells + 4) (n := slots + 32) (by omega) (by omega) ?_
    exact kk _ _ _ _ _ _ _ _ _ hT' h' g' hL hS (lv_sub hl [2, 3, 4, 5, 6] rfl)

set_option maxRecDepth 100000 in
set_option maxHeartbeats 4000000 in
theorem case_26 {p : Program} {l : Launch} {e : Env} {s : State} {m : MethodId} {args : Array Value} {below : List Frame} {meth : Method} {c : Code} {H : Heap} {locs : List Loc} {cells slots : Nat} {Q : State → Prop} {ls : Array Slot} {D : va_G} {κ κm : Nat → Nat} {cI cII cJ : ClassId} {o b L I n : Nat} {xs : Nat → Int32} {σ τ : SX} {z : Int64} {T : TT} {mk : Option Nat} (C : LawC p l s m args c D cI cII cJ κ κm o b L xs) (hI : I + 4 ≤ L) (hLm : L ≤ 2048) (hc : cells + 4 ≤ 601024) (hs : slots + 32 ≤ 7293034) (hT : Sys n T) (h : XI σ n T mk) (g : MI τ n T mk) (hL : LSt D cI cII cJ κ κm o σ τ z H) (hS : va_S (AL s) s.heap H locs) (hl : lv_has ls 9 [(4, .int (nI I)), (3, .ref o), (2, .ref (κm 0)), (1, .ref (κ 0)), (0, .ref b)])
    (kk : ∀ (σ τ : SX) (z : Int64) (n : Nat) (T : TT) (mk : Option Nat) (H : Heap) (locs : List Loc) (ls : Array Slot), Sys n T → XI σ n T mk → MI τ n T mk → LSt D cI cII cJ κ κm o σ τ z H → va_S (AL s) s.heap H locs → lv_has ls 9 [(4, .int (nI I)), (3, .ref o), (2, .ref (κm 0)), (1, .ref (κ 0)), (0, .ref b)] → W p l e room_1 s m args below meth c H locs (cells + 4) (slots + 32) Q (F0 m 1630 ls [])) :
    W p l e room_1 s m args below meth c H locs cells slots Q (F0 m 1409 ls []) := by
  obtain ⟨S, hst, hK, hX, hZ, hJ, hN, hκ, hm, hA, hAm, hAo, hd, ho, hmo, hsc, hbl⟩ := id C
  have hbA : ¬ AL s b := Nat.not_le.mpr hbl
  obtain ⟨hx, hb, hml, hown, hts⟩ := id S
  refine lv_aload_n hx hb dL_law_1409 rfl (lv_at hl 3 rfl) ?_
  refine lv_aload_n hx hb dL_law_1410 rfl (lv_at hl 4 rfl) ?_
  refine lv_iload hx hb dL_law_1411 (lv_at hl 0 rfl) ?_
  refine lv_iconst (v := 1) hx hb dL_law_1413 (by decide) ?_
  refine lv_iadd hx hb dL_law_1414 ?_
  refine va_sld hx hb hsc hbl hbA hS (sc_in (k := 1) hI hLm (by decide)) dL_law_1415 ?_
  refine lv_aload_n hx hb dL_law_1416 rfl (lv_at hl 1 rfl) ?_
  obtain ⟨R9, σ', kk0, z', v, τ', n', T', mk', eX, eW, eM, hT', h', g', hkk, hz⟩ := sim_fire (z := z) hT h g (xs ((nI I) + 1).toNatClampNeg)
  refine r_wrap C hL hS (vx_runSX (As := [.ref (κ 0), .int (xs ((nI I) + 1).toNatClampNeg), .ref o]) (rest := []) S (lw_fire l hst D cI cII cJ κ hκ o ho σ (xs ((nI I) + 1).toNatClampNeg) z _ R9 σ' kk0 z' eX eW) (vx_cwSW 3 S.2.2.2.2 gL_law_L_fire rfl rfl rfl (by decide +kernel) ⟨Nat.le_of_ble_eq_true rfl, Nat.le_of_ble_eq_true rfl⟩) (r_preW C hL hS) rfl rfl hl.1 rfl (lv_room (Nat.le_of_ble_eq_true rfl)) dL_law_1417 ⟨(show cells + 2 ≤ 601024 by omega), (show slots + 12 ≤ 7293034 by omega)⟩) (fun H locs hL hS => ?_)
  refine lv_istore (lv' := [(5, .int kk0), (4, .int (nI I)), (3, .ref o), (2, .ref (κm 0)), (1, .ref (κ 0)), (0, .ref b)]) hx hb dL_law_1420 hl (by decide) rfl (fun ls hl => ?_)
  refine lv_aload_n hx hb dL_law_1422 rfl (lv_at hl 3 rfl) ?_
  refine lv_aload_n hx hb dL_law_1423 rfl (lv_at hl 5 rfl) ?_
  refine lv_iload hx hb dL_law_1424 (lv_at hl 1 rfl) ?_
  refine lv_iconst (v := 1) hx hb dL_law_1426 (by decide) ?_
  refine lv_iadd hx hb dL_law_1427 ?_
  refine va_sld hx hb hsc hbl hbA hS (sc_in (k := 1) hI hLm (by decide)) dL_law_1428 ?_
  refine r_modi C hL hS (va_runV (As := [.int (xs ((nI I) + 1).toNatClampNeg)]) (rest := []) S (met_X4_fire l D cI cII κm hm τ (xs ((nI I) + 1).toNatClampNeg) v τ' eM) (cwV 1 S.2.2.2.2 gL_law_X4_fire rfl rfl rfl (by decide +kernel) ⟨Nat.le_of_ble_eq_true rfl, Nat.le_of_ble_eq_true rfl⟩) (g_preV (N := 12) (T := TX4) hK hL.2.1 (Nat.le_refl _) (by decide) rfl rfl) rfl rfl hl.1 rfl (lv_room (Nat.le_of_ble_eq_true rfl)) dL_law_1429 ⟨(show cells + 2 + 0 ≤ 601024 by omega), (show slots + 12 + 0 ≤ 7293034 by omega)⟩) (fun H locs hL hS => ?_)
  refine lv_istore (lv' := [(6, .int v), (5, .int kk0), (4, .int (nI I)), (3, .ref o), (2, .ref (κm 0)), (1, .ref (κ 0)), (0, .ref b)]) hx hb dL_law_1432 hl (by decide) rfl (fun ls hl => ?_)
  refine lv_aload_n hx hb dL_law_1434 rfl (lv_at hl 4 rfl) ?_
  refine r_modi C hL hS (va_runV (As := []) (rest := []) S (met_X4_thrown l D cI cII κm hm τ' kk0 (show fn_X4_thrown τ' = some kk0 from congrArg some hkk)) (cwV 0 S.2.2.2.2 gL_law_X4_thrown rfl rfl rfl (by decide +kernel) ⟨Nat.le_of_ble_eq_true rfl, Nat.le_of_ble_eq_true rfl⟩) (g_preV (N := 12) (T := TX4) hK hL.2.1 (Nat.le_refl _) (by decide) rfl rfl) rfl rfl hl.1 rfl (lv_room (Nat.le_of_ble_eq_true rfl)) dL_law_1435 ⟨(show cells + 2 + 0 ≤ 601024 by omega), (show slots + 12 + 0 ≤ 7293034 by omega)⟩) (fun H locs hL hS => ?_)
  refine lv_iload hx hb dL_law_1438 (lv_at hl 1 rfl) ?_
  refine lv_icmp_eq (tgt := 1445) hx hb dL_law_1440 (by decide) (fun _ => ?_) (fun hh => absurd rfl hh)
  refine lv_iload hx hb dL_law_1445 (lv_at hl 1 rfl) ?_
  refine lv_if_ne (tgt := 1462) hx hb dL_law_1447 (by decide) (fun ck => ?_) (fun ck => ?_)
  · skip
    refine lv_goto (tgt := 1630) hx hb dL_law_1462 (by decide) ?_
    refine W.widen (k := cells + 4) (n := slots + 32) (by omega) (by omega) ?_
    exact kk _ _ _ _ _ _ _ _ _ hT' h' g' hL hS (lv_sub hl [2, 3, 4, 5, 6] rfl)
  · have hz := hz ck
    refine lv_aload_n hx hb dL_law_1450 rfl (lv_at hl 3 rfl) ?_
    refine lv_iconst (v := 0) hx hb dL_law_1451 (by decide) ?_
    refine r_lald C hL dL_law_1452 ?_
    refine lv_iload hx hb dL_law_1453 (lv_at hl 0 rfl) ?_
    refine lv_i2l (v := v.toInt64) hx hb dL_law_1455 rfl ?_
    rw [show z' = v.toInt64 from hz]
    refine lv_lcmp0 hx hb dL_law_1456 ?_
    refine lv_if_eq (tgt := 1462) hx hb dL_law_1457 (by decide) (fun _ => ?_) (fun hh => absurd rfl hh)
    refine lv_goto (tgt := 1630) hx hb dL_law_1462 (by decide) ?_
    refine W.widen (k := cells + 4) (n := slots + 32) (by omega) (by omega) ?_
    exact kk _ _ _ _ _ _ _ _ _ hT' h' g' hL hS (lv_sub hl [2, 3, 4, 5, 6] rfl)

set_option maxRecDepth 100000 in
set_option maxHeartbeats 4000000 in
theorem case_27 {p : Program} {l : Launch} {e : Env} {s : State} {m : MethodId} {args : Array Value} {below : List Frame} {meth : Method} {c : Code} {H : Heap} {locs : List Loc} {cells slots : Nat} {Q : State → Prop} {ls : Array Slot} {D : va_G} {κ κm : Nat → Nat} {cI cII cJ : ClassId} {o b L I n : Nat} {xs : Nat → Int32} {σ τ : SX} {z : Int64} {T : TT} {mk : Option Nat} (C : LawC p l s m args c D cI cII cJ κ κm o b L xs) (hI : I + 4 ≤ L) (hLm : L ≤ 2048) (hc : cells + 4 ≤ 601024) (hs : slots + 32 ≤ 7293034) (hT : Sys n T) (h : XI σ n T mk) (g : MI τ n T mk) (hL : LSt D cI cII cJ κ κm o σ τ z H) (hS : va_S (AL s) s.heap H locs) (hl : lv_has ls 9 [(4, .int (nI I)), (3, .ref o), (2, .ref (κm 0)), (1, .ref (κ 0)), (0, .ref b)])
    (kk : ∀ (σ τ : SX) (z : Int64) (n : Nat) (T : TT) (mk : Option Nat) (H : Heap) (locs : List Loc) (ls : Array Slot), Sys n T → XI σ n T mk → MI τ n T mk → LSt D cI cII cJ κ κm o σ τ z H → va_S (AL s) s.heap H locs → lv_has ls 9 [(4, .int (nI I)), (3, .ref o), (2, .ref (κm 0)), (1, .ref (κ 0)), (0, .ref b)] → W p l e room_1 s m args below meth c H locs (cells + 4) (slots + 32) Q (F0 m 1630 ls [])) :
    W p l e room_1 s m args below meth c H locs cells slots Q (F0 m 1465 ls []) := by
  obtain ⟨S, hst, hK, hX, hZ, hJ, hN, hκ, hm, hA, hAm, hAo, hd, ho, hmo, hsc, hbl⟩ := id C
  have hbA : ¬ AL s b := Nat.not_le.mpr hbl
  obtain ⟨hx, hb, hml, hown, hts⟩ := id S
  refine lv_aload_n hx hb dL_law_1465 rfl (lv_at hl 3 rfl) ?_
  refine lv_aload_n hx hb dL_law_1466 rfl (lv_at hl 1 rfl) ?_
  obtain ⟨R9, σ', kk0, z', v, τ', n', T', mk', eX, eW, eM, hT', h', g', hkk, hz⟩ := sim_markingCount (z := z) hT h g
  refine r_wrap C hL hS (vx_runSX (As := [.ref (κ 0), .ref o]) (rest := []) S (lw_markingCount l hst D cI cII cJ κ hκ o ho σ z _ R9 σ' kk0 z' eX eW) (vx_cwSW 2 S.2.2.2.2 gL_law_L_markingCount rfl rfl rfl (by decide +kernel) ⟨Nat.le_of_ble_eq_true rfl, Nat.le_of_ble_eq_true rfl⟩) (r_preW C hL hS) rfl rfl hl.1 rfl (lv_room (Nat.le_of_ble_eq_true rfl)) dL_law_1467 ⟨(show cells + 1 ≤ 601024 by omega), (show slots + 6 ≤ 7293034 by omega)⟩) (fun H locs hL hS => ?_)
  refine lv_istore (lv' := [(5, .int kk0), (4, .int (nI I)), (3, .ref o), (2, .ref (κm 0)), (1, .ref (κ 0)), (0, .ref b)]) hx hb dL_law_1470 hl (by decide) rfl (fun ls hl => ?_)
  refine lv_aload_n hx hb dL_law_1472 rfl (lv_at hl 3 rfl) ?_
  refine r_modi C hL hS (va_runV (As := []) (rest := []) S (met_X4_markingCount l D cI cII κm hm τ v τ' eM) (cwV 0 S.2.2.2.2 gL_law_X4_markingCount rfl rfl rfl (by decide +kernel) ⟨Nat.le_of_ble_eq_true rfl, Nat.le_of_ble_eq_true rfl⟩) (g_preV (N := 12) (T := TX4) hK hL.2.1 (Nat.le_refl _) (by decide) rfl rfl) rfl rfl hl.1 rfl (lv_room (Nat.le_of_ble_eq_true rfl)) dL_law_1473 ⟨(show cells + 1 + 0 ≤ 601024 by omega), (show slots + 6 + 0 ≤ 7293034 by omega)⟩) (fun H locs hL hS => ?_)
  refine lv_istore (lv' := [(6, .int v), (5, .int kk0), (4, .int (nI I)), (3, .ref o), (2, .ref (κm 0)), (1, .ref (κ 0)), (0, .ref b)]) hx hb dL_law_1476 hl (by decide) rfl (fun ls hl => ?_)
  refine lv_aload_n hx hb dL_law_1478 rfl (lv_at hl 4 rfl) ?_
  refine r_modi C hL hS (va_runV (As := []) (rest := []) S (met_X4_thrown l D cI cII κm hm τ' kk0 (show fn_X4_thrown τ' = some kk0 from congrArg some hkk)) (cwV 0 S.2.2.2.2 gL_law_X4_thrown rfl rfl rfl (by decide +kernel) ⟨Nat.le_of_ble_eq_true rfl, Nat.le_of_ble_eq_true rfl⟩) (g_preV (N := 12) (T := TX4) hK hL.2.1 (Nat.le_refl _) (by decide) rfl rfl) rfl rfl hl.1 rfl (lv_room (Nat.le_of_ble_eq_true rfl)) dL_law_1479 ⟨(show cells + 1 + 0 ≤ 601024 by omega), (show slots + 6 + 0 ≤ 7293034 by omega)⟩) (fun H locs hL hS => ?_)
  refine lv_iload hx hb dL_law_1482 (lv_at hl 1 rfl) ?_
  refine lv_icmp_eq (tgt := 1489) hx hb dL_law_1484 (by decide) (fun _ => ?_) (fun hh => absurd rfl hh)
  refine lv_iload hx hb dL_law_1489 (lv_at hl 1 rfl) ?_
  refine lv_if_ne (tgt := 1506) hx hb dL_law_1491 (by decide) (fun ck => ?_) (fun ck => ?_)
  · skip
    refine lv_goto (tgt := 1630) hx hb dL_law_1506 (by decide) ?_
    refine W.widen (k := cells + 4) (n := slots + 32) (by omega) (by omega) ?_
    exact kk _ _ _ _ _ _ _ _ _ hT' h' g' hL hS (lv_sub hl [2, 3, 4, 5, 6] rfl)
  · have hz := hz ck
    refine lv_aload_n hx hb dL_law_1494 rfl (lv_at hl 3 rfl) ?_
    refine lv_iconst (v := 0) hx hb dL_law_1495 (by decide) ?_
    refine r_lald C hL dL_law_1496 ?_
    refine lv_iload hx hb dL_law_1497 (lv_at hl 0 rfl) ?_
    refine lv_i2l (v := v.toInt64) hx hb dL_law_1499 rfl ?_
    rw [show z' = v.toInt64 from hz]
    refine lv_lcmp0 hx hb dL_law_1500 ?_
    refine lv_if_eq (tgt := 1506) hx hb dL_law_1501 (by decide) (fun _ => ?_) (fun hh => absurd rfl hh)
    refine lv_goto (tgt := 1630) hx hb dL_law_1506 (by decide) ?_
    refine W.widen (k := cells + 4) (n := slots + 32) (by omega) (by omega) ?_
    exact kk _ _ _ _ _ _ _ _ _ hT' h' g' hL hS (lv_sub hl [2, 3, 4, 5, 6] rfl)

set_option maxRecDepth 100000 in
set_option maxHeartbeats 4000000 in
theorem case_28 {p : Program} {l : Launch} {e : Env} {s : State} {m : MethodId} {args : Array Value} {below : List Frame} {meth : Method} {c : Code} {H : Heap} {locs : List Loc} {cells slots : Nat} {Q : State → Prop} {ls : Array Slot} {D : va_G} {κ κm : Nat → Nat} {cI cII cJ : ClassId} {o b L I n : Nat} {xs : Nat → Int32} {σ τ : SX} {z : Int64} {T : TT} {mk : Option Nat} (C : LawC p l s m args c D cI cII cJ κ κm o b L xs) (hI : I + 4 ≤ L) (hLm : L ≤ 2048) (hc : cells + 4 ≤ 601024) (hs : slots + 32 ≤ 7293034) (hT : Sys n T) (h : XI σ n T mk) (g : MI τ n T mk) (hL : LSt D cI cII cJ κ κm o σ τ z H) (hS : va_S (AL s) s.heap H locs) (hl : lv_has ls 9 [(4, .int (nI I)), (3, .ref o), (2, .ref (κm 0)), (1, .ref (κ 0)), (0, .ref b)])
    (kk : ∀ (σ τ : SX) (z : Int64) (n : Nat) (T : TT) (mk : Option Nat) (H : Heap) (locs : List Loc) (ls : Array Slot), Sys n T → XI σ n T mk → MI τ n T mk → LSt D cI cII cJ κ κm o σ τ z H → va_S (AL s) s.heap H locs → lv_has ls 9 [(4, .int (nI I)), (3, .ref o), (2, .ref (κm 0)), (1, .ref (κ 0)), (0, .ref b)] → W p l e room_1 s m args below meth c H locs (cells + 4) (slots + 32) Q (F0 m 1630 ls [])) :
    W p l e room_1 s m args below meth c H locs cells slots Q (F0 m 1509 ls []) := by
  obtain ⟨S, hst, hK, hX, hZ, hJ, hN, hκ, hm, hA, hAm, hAo, hd, ho, hmo, hsc, hbl⟩ := id C
  have hbA : ¬ AL s b := Nat.not_le.mpr hbl
  obtain ⟨hx, hb, hml, hown, hts⟩ := id S
  refine lv_aload_n hx hb dL_law_1509 rfl (lv_at hl 3 rfl) ?_
  refine lv_aload_n hx hb dL_law_1510 rfl (lv_at hl 4 rfl) ?_
  refine lv_iload hx hb dL_law_1511 (lv_at hl 0 rfl) ?_
  refine lv_iconst (v := 1) hx hb dL_law_1513 (by decide) ?_
  refine lv_iadd hx hb dL_law_1514 ?_
  refine va_sld hx hb hsc hbl hbA hS (sc_in (k := 1) hI hLm (by decide)) dL_law_1515 ?_
  refine lv_aload_n hx hb dL_law_1516 rfl (lv_at hl 1 rfl) ?_
  obtain ⟨R9, σ', kk0, z', v, τ', n', T', mk', eX, eW, eM, hT', h', g', hkk, hz⟩ := sim_markingAt (z := z) hT h g (xs ((nI I) + 1).toNatClampNeg)
  refine r_wrap C hL hS (vx_runSX (As := [.ref (κ 0), .int (xs ((nI I) + 1).toNatClampNeg), .ref o]) (rest := []) S (lw_markingAt l hst D cI cII cJ κ hκ o ho σ (xs ((nI I) + 1).toNatClampNeg) z _ R9 σ' kk0 z' eX eW) (vx_cwSW 3 S.2.2.2.2 gL_law_L_markingAt rfl rfl rfl (by decide +kernel) ⟨Nat.le_of_ble_eq_true rfl, Nat.le_of_ble_eq_true rfl⟩) (r_preW C hL hS) rfl rfl hl.1 rfl (lv_room (Nat.le_of_ble_eq_true rfl)) dL_law_1517 ⟨(show cells + 2 ≤ 601024 by omega), (show slots + 12 ≤ 7293034 by omega)⟩) (fun H locs hL hS => ?_)
  refine lv_istore (lv' := [(5, .int kk0), (4, .int (nI I)), (3, .ref o), (2, .ref (κm 0)), (1, .ref (κ 0)), (0, .ref b)]) hx hb dL_law_1520 hl (by decide) rfl (fun ls hl => ?_)
  refine lv_aload_n hx hb dL_law_1522 rfl (lv_at hl 3 rfl) ?_
  refine lv_aload_n hx hb dL_law_1523 rfl (lv_at hl 5 rfl) ?_
  refine lv_iload hx hb dL_law_1524 (lv_at hl 1 rfl) ?_
  refine lv_iconst (v := 1) hx hb dL_law_1526 (by decide) ?_
  refine lv_iadd hx hb dL_law_1527 ?_
  refine va_sld hx hb hsc hbl hbA hS (sc_in (k := 1) hI hLm (by decide)) dL_law_1528 ?_
  refine r_modi C hL hS (va_runV (As := [.int (xs ((nI I) + 1).toNatClampNeg)]) (rest := []) S (met_X4_markingAt l D cI cII κm hm τ (xs ((nI I) + 1).toNatClampNeg) v τ' eM) (cwV 1 S.2.2.2.2 gL_law_X4_markingAt rfl rfl rfl (by decide +kernel) ⟨Nat.le_of_ble_eq_true rfl, Nat.le_of_ble_eq_true rfl⟩) (g_preV (N := 12) (T := TX4) hK hL.2.1 (Nat.le_refl _) (by decide) rfl rfl) rfl rfl hl.1 rfl (lv_room (Nat.le_of_ble_eq_true rfl)) dL_law_1529 ⟨(show cells + 2 + 0 ≤ 601024 by omega), (show slots + 12 + 0 ≤ 7293034 by omega)⟩) (fun H locs hL hS => ?_)
  refine lv_istore (lv' := [(6, .int v), (5, .int kk0), (4, .int (nI I)), (3, .ref o), (2, .ref (κm 0)), (1, .ref (κ 0)), (0, .ref b)]) hx hb dL_law_1532 hl (by decide) rfl (fun ls hl => ?_)
  refine lv_aload_n hx hb dL_law_1534 rfl (lv_at hl 4 rfl) ?_
  refine r_modi C hL hS (va_runV (As := []) (rest := []) S (met_X4_thrown l D cI cII κm hm τ' kk0 (show fn_X4_thrown τ' = some kk0 from congrArg some hkk)) (cwV 0 S.2.2.2.2 gL_law_X4_thrown rfl rfl rfl (by decide +kernel) ⟨Nat.le_of_ble_eq_true rfl, Nat.le_of_ble_eq_true rfl⟩) (g_preV (N := 12) (T := TX4) hK hL.2.1 (Nat.le_refl _) (by decide) rfl rfl) rfl rfl hl.1 rfl (lv_room (Nat.le_of_ble_eq_true rfl)) dL_law_1535 ⟨(show cells + 2 + 0 ≤ 601024 by omega), (show slots + 12 + 0 ≤ 7293034 by omega)⟩) (fun H locs hL hS => ?_)
  refine lv_iload hx hb dL_law_1538 (lv_at hl 1 rfl) ?_
  refine lv_icmp_eq (tgt := 1545) hx hb dL_law_1540 (by decide) (fun _ => ?_) (fun hh => absurd rfl hh)
  refine lv_iload hx hb dL_law_1545 (lv_at hl 1 rfl) ?_
  refine lv_if_ne (tgt := 1562) hx hb dL_law_1547 (by decide) (fun ck => ?_) (fun ck => ?_)
  · skip
    refine lv_goto (tgt := 1630) hx hb dL_law_1562 (by decide) ?_
    refine W.widen (k := cells + 4) (n := slots + 32) (by omega) (by omega) ?_
    exact kk _ _ _ _ _ _ _ _ _ hT' h' g' hL hS (lv_sub hl [2, 3, 4, 5, 6] rfl)
  · have hz := hz ck
    refine lv_aload_n hx hb dL_law_1550 rfl (lv_at hl 3 rfl) ?_
    refine lv_iconst (v := 0) hx hb dL_law_1551 (by decide) ?_
    refine r_lald C hL dL_law_1552 ?_
    refine lv_iload hx hb dL_law_1553 (lv_at hl 0 rfl) ?_
    refine lv_i2l (v := v.toInt64) hx hb dL_law_1555 rfl ?_
    rw [show z' = v.toInt64 from hz]
    refine lv_lcmp0 hx hb dL_law_1556 ?_
    refine lv_if_eq (tgt := 1562) hx hb dL_law_1557 (by decide) (fun _ => ?_) (fun hh => absurd rfl hh)
    refine lv_goto (tgt := 1630) hx hb dL_law_1562 (by decide) ?_
    refine W.widen (k := cells + 4) (n := slots + 32) (by omega) (by omega) ?_
    exact kk _ _ _ _ _ _ _ _ _ hT' h' g' hL hS (lv_sub hl [2, 3, 4, 5, 6] rfl)

set_option maxRecDepth 100000 in
set_option maxHeartbeats 4000000 in
theorem case_29 {p : Program} {l : Launch} {e : Env} {s : State} {m : MethodId} {args : Array Value} {below : List Frame} {meth : Method} {c : Code} {H : Heap} {locs : List Loc} {cells slots : Nat} {Q : State → Prop} {ls : Array Slot} {D : va_G} {κ κm : Nat → Nat} {cI cII cJ : ClassId} {o b L I n : Nat} {xs : Nat → Int32} {σ τ : SX} {z : Int64} {T : TT} {mk : Option Nat} (C : LawC p l s m args c D cI cII cJ κ κm o b L xs) (hI : I + 4 ≤ L) (hLm : L ≤ 2048) (hc : cells + 4 ≤ 601024) (hs : slots + 32 ≤ 7293034) (hT : Sys n T) (h : XI σ n T mk) (g : MI τ n T mk) (hL : LSt D cI cII cJ κ κm o σ τ z H) (hS : va_S (AL s) s.heap H locs) (hl : lv_has ls 9 [(4, .int (nI I)), (3, .ref o), (2, .ref (κm 0)), (1, .ref (κ 0)), (0, .ref b)])
    (kk : ∀ (σ τ : SX) (z : Int64) (n : Nat) (T : TT) (mk : Option Nat) (H : Heap) (locs : List Loc) (ls : Array Slot), Sys n T → XI σ n T mk → MI τ n T mk → LSt D cI cII cJ κ κm o σ τ z H → va_S (AL s) s.heap H locs → lv_has ls 9 [(4, .int (nI I)), (3, .ref o), (2, .ref (κm 0)), (1, .ref (κ 0)), (0, .ref b)] → W p l e room_1 s m args below meth c H locs (cells + 4) (slots + 32) Q (F0 m 1630 ls [])) :
    W p l e room_1 s m args below meth c H locs cells slots Q (F0 m 1565 ls []) := by
  obtain ⟨S, hst, hK, hX, hZ, hJ, hN, hκ, hm, hA, hAm, hAo, hd, ho, hmo, hsc, hbl⟩ := id C
  have hbA : ¬ AL s b := Nat.not_le.mpr hbl
  obtain ⟨hx, hb, hml, hown, hts⟩ := id S
  refine lv_aload_n hx hb dL_law_1565 rfl (lv_at hl 3 rfl) ?_
  refine lv_aload_n hx hb dL_law_1566 rfl (lv_at hl 1 rfl) ?_
  obtain ⟨R9, σ', kk0, z', v, τ1, τ', v1, n', T', mk', eX, eW, eA, eM, hT', h', g', hkk, hz⟩ := sim_isFaithful (z := z) hT h g
  refine r_wrap C hL hS (vx_runSX (As := [.ref (κ 0), .ref o]) (rest := []) S (lw_isFaithful l hst D cI cII cJ κ hκ o ho σ z _ R9 σ' kk0 z' eX eW) (vx_cwSW 2 S.2.2.2.2 gL_law_L_isFaithful rfl rfl rfl (by decide +kernel) ⟨Nat.le_of_ble_eq_true rfl, Nat.le_of_ble_eq_true rfl⟩) (r_preW C hL hS) rfl rfl hl.1 rfl (lv_room (Nat.le_of_ble_eq_true rfl)) dL_law_1567 ⟨(show cells + 1 ≤ 601024 by omega), (show slots + 6 ≤ 7293034 by omega)⟩) (fun H locs hL hS => ?_)
  refine lv_istore (lv' := [(5, .int kk0), (4, .int (nI I)), (3, .ref o), (2, .ref (κm 0)), (1, .ref (κ 0)), (0, .ref b)]) hx hb dL_law_1570 hl (by decide) rfl (fun ls hl => ?_)
  refine lv_aload_n hx hb dL_law_1572 rfl (lv_at hl 3 rfl) ?_
  refine r_modF C hL hS (va_runV (As := []) (rest := []) S (met_X4_isFaithful l D cI cII κm hm τ _ v τ1 τ' v1 eA eM) (cwV 0 S.2.2.2.2 gL_law_X4_isFaithful rfl rfl rfl (by decide +kernel) ⟨Nat.le_of_ble_eq_true rfl, Nat.le_of_ble_eq_true rfl⟩) (r_preF C hL hS) rfl rfl hl.1 rfl (lv_room (Nat.le_of_ble_eq_true rfl)) dL_law_1573 ⟨(show cells + 1 + 1 ≤ 601024 by omega), (show slots + 6 + 12 ≤ 7293034 by omega)⟩) (fun H locs hL hS => ?_)
  refine lv_istore (lv' := [(6, .int v), (5, .int kk0), (4, .int (nI I)), (3, .ref o), (2, .ref (κm 0)), (1, .ref (κ 0)), (0, .ref b)]) hx hb dL_law_1576 hl (by decide) rfl (fun ls hl => ?_)
  refine lv_aload_n hx hb dL_law_1578 rfl (lv_at hl 4 rfl) ?_
  refine r_modi C hL hS (va_runV (As := []) (rest := []) S (met_X4_thrown l D cI cII κm hm τ' kk0 (show fn_X4_thrown τ' = some kk0 from congrArg some hkk)) (cwV 0 S.2.2.2.2 gL_law_X4_thrown rfl rfl rfl (by decide +kernel) ⟨Nat.le_of_ble_eq_true rfl, Nat.le_of_ble_eq_true rfl⟩) (g_preV (N := 12) (T := TX4) hK hL.2.1 (Nat.le_refl _) (by decide) rfl rfl) rfl rfl hl.1 rfl (lv_room (Nat.le_of_ble_eq_true rfl)) dL_law_1579 ⟨(show cells + 2 + 0 ≤ 601024 by omega), (show slots + 18 + 0 ≤ 7293034 by omega)⟩) (fun H locs hL hS => ?_)
  refine lv_iload hx hb dL_law_1582 (lv_at hl 1 rfl) ?_
  refine lv_icmp_eq (tgt := 1589) hx hb dL_law_1584 (by decide) (fun _ => ?_) (fun hh => absurd rfl hh)
  refine lv_iload hx hb dL_law_1589 (lv_at hl 1 rfl) ?_
  refine lv_if_ne (tgt := 1613) hx hb dL_law_1591 (by decide) (fun ck => ?_) (fun ck => ?_)
  · skip
    refine lv_goto (tgt := 1630) hx hb dL_law_1613 (by decide) ?_
    refine W.widen (k := cells + 4) (n := slots + 32) (by omega) (by omega) ?_
    exact kk _ _ _ _ _ _ _ _ _ hT' h' g' hL hS (lv_sub hl [2, 3, 4, 5, 6] rfl)
  · have hz := hz ck
    refine lv_aload_n hx hb dL_law_1594 rfl (lv_at hl 3 rfl) ?_
    refine lv_iconst (v := 0) hx hb dL_law_1595 (by decide) ?_
    refine r_lald C hL dL_law_1596 ?_
    refine lv_iload hx hb dL_law_1597 (lv_at hl 0 rfl) ?_
    refine lv_if_eq (tgt := 1606) hx hb dL_law_1599 (by decide) (fun cv => ?_) (fun cv => ?_)
    · have hz : z' = 0 := hz.trans (if_pos cv)
      refine lv_lconst (v := 0) hx hb dL_law_1606 rfl ?_
      rw [show z' = 0 from hz]
      refine lv_lcmp0 hx hb dL_law_1607 ?_
      refine lv_if_eq (tgt := 1613) hx hb dL_law_1608 (by decide) (fun _ => ?_) (fun hh => absurd rfl hh)
      refine lv_goto (tgt := 1630) hx hb dL_law_1613 (by decide) ?_
      refine W.widen (k := cells + 4) (n := slots + 32) (by omega) (by omega) ?_
      exact kk _ _ _ _ _ _ _ _ _ hT' h' g' hL hS (lv_sub hl [2, 3, 4, 5, 6] rfl)
    · have hz : z' = 1 := hz.trans (if_neg cv)
      refine lv_lconst (v := 1) hx hb dL_law_1602 rfl ?_
      refine lv_goto (tgt := 1607) hx hb dL_law_1603 (by decide) ?_
      rw [show z' = 1 from hz]
      refine lv_lcmp0 hx hb dL_law_1607 ?_
      refine lv_if_eq (tgt := 1613) hx hb dL_law_1608 (by decide) (fun _ => ?_) (fun hh => absurd rfl hh)
      refine lv_goto (tgt := 1630) hx hb dL_law_1613 (by decide) ?_
      refine W.widen (k := cells + 4) (n := slots + 32) (by omega) (by omega) ?_
      exact kk _ _ _ _ _ _ _ _ _ hT' h' g' hL hS (lv_sub hl [2, 3, 4, 5, 6] rfl)

set_option maxRecDepth 100000 in
set_option maxHeartbeats 4000000 in
theorem case_30 {p : Program} {l : Launch} {e : Env} {s : State} {m : MethodId} {args : Array Value} {below : List Frame} {meth : Method} {c : Code} {H : Heap} {locs : List Loc} {cells slots : Nat} {Q : State → Prop} {ls : Array Slot} {D : va_G} {κ κm : Nat → Nat} {cI cII cJ : ClassId} {o b L I n : Nat} {xs : Nat → Int32} {σ τ : SX} {z : Int64} {T : TT} {mk : Option Nat} (C : LawC p l s m args c D cI cII cJ κ κm o b L xs) (hI : I + 4 ≤ L) (hLm : L ≤ 2048) (hc : cells + 4 ≤ 601024) (hs : slots + 32 ≤ 7293034) (hT : Sys n T) (h : XI σ n T mk) (g : MI τ n T mk) (hL : LSt D cI cII cJ κ κm o σ τ z H) (hS : va_S (AL s) s.heap H locs) (hl : lv_has ls 9 [(4, .int (nI I)), (3, .ref o), (2, .ref (κm 0)), (1, .ref (κ 0)), (0, .ref b)])
    (kk : ∀ (σ τ : SX) (z : Int64) (n : Nat) (T : TT) (mk : Option Nat) (H : Heap) (locs : List Loc) (ls : Array Slot), Sys n T → XI σ n T mk → MI τ n T mk → LSt D cI cII cJ κ κm o σ τ z H → va_S (AL s) s.heap H locs → lv_has ls 9 [(4, .int (nI I)), (3, .ref o), (2, .ref (κm 0)), (1, .ref (κ 0)), (0, .ref b)] → W p l e room_1 s m args below meth c H locs (cells + 4) (slots + 32) Q (F0 m 1630 ls [])) :
    W p l e room_1 s m args below meth c H locs cells slots Q (F0 m 1616 ls []) := by
  obtain ⟨S, hst, hK, hX, hZ, hJ, hN, hκ, hm, hA, hAm, hAo, hd, ho, hmo, hsc, hbl⟩ := id C
  have hbA : ¬ AL s b := Nat.not_le.mpr hbl
  obtain ⟨hx, hb, hml, hown, hts⟩ := id S
  refine lv_aload_n hx hb dL_law_1616 rfl (lv_at hl 3 rfl) ?_
  obtain ⟨v, σ', τ', eX, eM, h', g'⟩ := sim_digest hT h g
  refine r_clsl C hL hS (va_runV (As := []) (rest := []) S (met_X3_digest l D cI cII κ hκ σ v σ' eX) (cwV 0 S.2.2.2.2 gL_law_X3_digest rfl rfl rfl (by decide +kernel) ⟨Nat.le_of_ble_eq_true rfl, Nat.le_of_ble_eq_true rfl⟩) (g_preV (N := 3) (T := TX3) hK hL.1 (Nat.le_refl _) (by decide) rfl rfl) rfl rfl hl.1 rfl (lv_room (Nat.le_of_ble_eq_true rfl)) dL_law_1617 ⟨(show cells + 0 ≤ 601024 by omega), (show slots + 0 ≤ 7293034 by omega)⟩) (fun H locs hL hS => ?_)
  refine lv_aload_n hx hb dL_law_1620 rfl (lv_at hl 2 rfl) ?_
  refine r_modl C hL hS (va_runV (As := []) (rest := [.long v]) S (met_X4_digest l D cI cII κm hm τ v τ' eM) (cwV 0 S.2.2.2.2 gL_law_X4_digest rfl rfl rfl (by decide +kernel) ⟨Nat.le_of_ble_eq_true rfl, Nat.le_of_ble_eq_true rfl⟩) (g_preV (N := 12) (T := TX4) hK hL.2.1 (Nat.le_refl _) (by decide) rfl rfl) rfl rfl hl.1 rfl (lv_room (Nat.le_of_ble_eq_true rfl)) dL_law_1621 ⟨(show cells + 0 ≤ 601024 by omega), (show slots + 0 ≤ 7293034 by omega)⟩) (fun H locs hL hS => ?_)
  refine lv_lcmp0 hx hb dL_law_1624 ?_
  refine lv_if_eq (tgt := 1630) hx hb dL_law_1625 (by decide) (fun _ => ?_) (fun hh => absurd rfl hh)
  refine W.widen (k := cells + 4) (n := slots + 32) (by omega) (by omega) ?_
  exact kk _ _ _ _ _ _ _ _ _ hT h' g' hL hS (lv_sub hl [0, 1, 2, 3, 4] rfl)

