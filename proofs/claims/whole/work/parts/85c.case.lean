/-! 85c: by wip/whole/gencase.py: the calls of the law, one by one -/
set_option maxRecDepth 100000 in
set_option maxHeartbeats 4000000 in
theorem case_16 {p : Program} {l : Launch} {e : Env} {s : State} {m : MethodId} {args : Array Value} {below : List Frame} {meth : Method} {c : Code} {H : Heap} {locs : List Loc} {cells slots : Nat} {Q : State → Prop} {ls : Array Slot} {D : va_G} {κ κm : Nat → Nat} {cI cII cJ : ClassId} {o b L I n : Nat} {xs : Nat → Int32} {σ τ : SX} {z : Int64} {T : TT} {mk : Option Nat} (C : LawC p l s m args c D cI cII cJ κ κm o b L xs) (hI : I + 4 ≤ L) (hLm : L ≤ 2048) (hc : cells + 4 ≤ 601024) (hs : slots + 32 ≤ 7293034) (hT : Sys n T) (h : XI σ n T mk) (g : MI τ n T mk) (hL : LSt D cI cII cJ κ κm o σ τ z H) (hS : va_S (AL s) s.heap H locs) (hl : lv_has ls 9 [(4, .int (nI I)), (3, .ref o), (2, .ref (κm 0)), (1, .ref (κ 0)), (0, .ref b)])
    (kk : ∀ (σ τ : SX) (z : Int64) (n : Nat) (T : TT) (mk : Option Nat) (H : Heap) (locs : List Loc) (ls : Array Slot), Sys n T → XI σ n T mk → MI τ n T mk → LSt D cI cII cJ κ κm o σ τ z H → va_S (AL s) s.heap H locs → lv_has ls 9 [(4, .int (nI I)), (3, .ref o), (2, .ref (κm 0)), (1, .ref (κ 0)), (0, .ref b)] → W p l e room_1 s m args below meth c H locs (cells + 4) (slots + 32) Q (F0 m 1630 ls [])) :
    W p l e room_1 s m args below meth c H locs cells slots Q (F0 m 1036 ls []) := by
  obtain ⟨S, hst, hK, hX, hZ, hJ, hN, hκ, hm, hA, hAm, hAo, hd, ho, hmo, hsc, hbl⟩ := id C
  have hbA : ¬ AL s b := Nat.not_le.mpr hbl
  obtain ⟨hx, hb, hml, hown, hts⟩ := id S
  refine lv_aload_n hx hb dL_law_1036 rfl (lv_at hl 3 rfl) ?_
  refine lv_aload_n hx hb dL_law_1037 rfl (lv_at hl 4 rfl) ?_
  refine lv_iload hx hb dL_law_1038 (lv_at hl 0 rfl) ?_
  refine lv_iconst (v := 1) hx hb dL_law_1040 (by decide) ?_
  refine lv_iadd hx hb dL_law_1041 ?_
  refine va_sld hx hb hsc hbl hbA hS (sc_in (k := 1) hI hLm (by decide)) dL_law_1042 ?_
  refine lv_aload_n hx hb dL_law_1043 rfl (lv_at hl 4 rfl) ?_
  refine lv_iload hx hb dL_law_1044 (lv_at hl 0 rfl) ?_
  refine lv_iconst (v := 2) hx hb dL_law_1046 (by decide) ?_
  refine lv_iadd hx hb dL_law_1047 ?_
  refine va_sld hx hb hsc hbl hbA hS (sc_in (k := 2) hI hLm (by decide)) dL_law_1048 ?_
  refine lv_aload_n hx hb dL_law_1049 rfl (lv_at hl 1 rfl) ?_
  obtain ⟨R9, σ', kk0, z', v, τ', n', T', mk', eX, eW, eM, hT', h', g', hkk, hz⟩ := sim_preventer (z := z) hT h g (xs ((nI I) + 1).toNatClampNeg) (xs ((nI I) + 2).toNatClampNeg)
  refine r_wrap C hL hS (vx_runSX (As := [.ref (κ 0), .int (xs ((nI I) + 1).toNatClampNeg), .int (xs ((nI I) + 2).toNatClampNeg), .ref o]) (rest := []) S (lw_preventer l hst D cI cII cJ κ hκ o ho σ (xs ((nI I) + 1).toNatClampNeg) (xs ((nI I) + 2).toNatClampNeg) z _ R9 σ' kk0 z' eX eW) (vx_cwSW 4 S.2.2.2.2 gL_law_L_preventer rfl rfl rfl (by decide +kernel) ⟨Nat.le_of_ble_eq_true rfl, Nat.le_of_ble_eq_true rfl⟩) (r_preW C hL hS) rfl rfl hl.1 rfl (lv_room (Nat.le_of_ble_eq_true rfl)) dL_law_1050 ⟨(show cells + 2 ≤ 601024 by omega), (show slots + 12 ≤ 7293034 by omega)⟩) (fun H locs hL hS => ?_)
  refine lv_istore (lv' := [(5, .int kk0), (4, .int (nI I)), (3, .ref o), (2, .ref (κm 0)), (1, .ref (κ 0)), (0, .ref b)]) hx hb dL_law_1053 hl (by decide) rfl (fun ls hl => ?_)
  refine lv_aload_n hx hb dL_law_1055 rfl (lv_at hl 3 rfl) ?_
  refine lv_aload_n hx hb dL_law_1056 rfl (lv_at hl 5 rfl) ?_
  refine lv_iload hx hb dL_law_1057 (lv_at hl 1 rfl) ?_
  refine lv_iconst (v := 1) hx hb dL_law_1059 (by decide) ?_
  refine lv_iadd hx hb dL_law_1060 ?_
  refine va_sld hx hb hsc hbl hbA hS (sc_in (k := 1) hI hLm (by decide)) dL_law_1061 ?_
  refine lv_aload_n hx hb dL_law_1062 rfl (lv_at hl 5 rfl) ?_
  refine lv_iload hx hb dL_law_1063 (lv_at hl 1 rfl) ?_
  refine lv_iconst (v := 2) hx hb dL_law_1065 (by decide) ?_
  refine lv_iadd hx hb dL_law_1066 ?_
  refine va_sld hx hb hsc hbl hbA hS (sc_in (k := 2) hI hLm (by decide)) dL_law_1067 ?_
  refine r_modi C hL hS (va_runV (As := [.int (xs ((nI I) + 1).toNatClampNeg), .int (xs ((nI I) + 2).toNatClampNeg)]) (rest := []) S (met_X4_preventer l D cI cII κm hm τ (xs ((nI I) + 1).toNatClampNeg) (xs ((nI I) + 2).toNatClampNeg) v τ' eM) (cwV 2 S.2.2.2.2 gL_law_X4_preventer rfl rfl rfl (by decide +kernel) ⟨Nat.le_of_ble_eq_true rfl, Nat.le_of_ble_eq_true rfl⟩) (g_preV (N := 12) (T := TX4) hK hL.2.1 (Nat.le_refl _) (by decide) rfl rfl) rfl rfl hl.1 rfl (lv_room (Nat.le_of_ble_eq_true rfl)) dL_law_1068 ⟨(show cells + 2 + 0 ≤ 601024 by omega), (show slots + 12 + 0 ≤ 7293034 by omega)⟩) (fun H locs hL hS => ?_)
  refine lv_istore (lv' := [(6, .int v), (5, .int kk0), (4, .int (nI I)), (3, .ref o), (2, .ref (κm 0)), (1, .ref (κ 0)), (0, .ref b)]) hx hb dL_law_1071 hl (by decide) rfl (fun ls hl => ?_)
  refine lv_aload_n hx hb dL_law_1073 rfl (lv_at hl 4 rfl) ?_
  refine r_modi C hL hS (va_runV (As := []) (rest := []) S (met_X4_thrown l D cI cII κm hm τ' kk0 (show fn_X4_thrown τ' = some kk0 from congrArg some hkk)) (cwV 0 S.2.2.2.2 gL_law_X4_thrown rfl rfl rfl (by decide +kernel) ⟨Nat.le_of_ble_eq_true rfl, Nat.le_of_ble_eq_true rfl⟩) (g_preV (N := 12) (T := TX4) hK hL.2.1 (Nat.le_refl _) (by decide) rfl rfl) rfl rfl hl.1 rfl (lv_room (Nat.le_of_ble_eq_true rfl)) dL_law_1074 ⟨(show cells + 2 + 0 ≤ 601024 by omega), (show slots + 12 + 0 ≤ 7293034 by omega)⟩) (fun H locs hL hS => ?_)
  refine lv_iload hx hb dL_law_1077 (lv_at hl 1 rfl) ?_
  refine lv_icmp_eq (tgt := 1084) hx hb dL_law_1079 (by decide) (fun _ => ?_) (fun hh => absurd rfl hh)
  refine lv_iload hx hb dL_law_1084 (lv_at hl 1 rfl) ?_
  refine lv_if_ne (tgt := 1101) hx hb dL_law_1086 (by decide) (fun ck => ?_) (fun ck => ?_)
  · skip
    refine lv_goto (tgt := 1630) hx hb dL_law_1101 (by decide) ?_
    refine W.widen (k := cells + 4) (n := slots + 32) (by omega) (by omega) ?_
    exact kk _ _ _ _ _ _ _ _ _ hT' h' g' hL hS (lv_sub hl [2, 3, 4, 5, 6] rfl)
  · have hz := hz ck
    refine lv_aload_n hx hb dL_law_1089 rfl (lv_at hl 3 rfl) ?_
    refine lv_iconst (v := 0) hx hb dL_law_1090 (by decide) ?_
    refine r_lald C hL dL_law_1091 ?_
    refine lv_iload hx hb dL_law_1092 (lv_at hl 0 rfl) ?_
    refine lv_i2l (v := v.toInt64) hx hb dL_law_1094 rfl ?_
    rw [show z' = v.toInt64 from hz]
    refine lv_lcmp0 hx hb dL_law_1095 ?_
    refine lv_if_eq (tgt := 1101) hx hb dL_law_1096 (by decide) (fun _ => ?_) (fun hh => absurd rfl hh)
    refine lv_goto (tgt := 1630) hx hb dL_law_1101 (by decide) ?_
    refine W.widen (k := cells + 4) (n := slots + 32) (by omega) (by omega) ?_
    exact kk _ _ _ _ _ _ _ _ _ hT' h' g' hL hS (lv_sub hl [2, 3, 4, 5, 6] rfl)

set_option maxRecDepth 100000 in
set_option maxHeartbeats 4000000 in
theorem case_17 {p : Program} {l : Launch} {e : Env} {s : State} {m : MethodId} {args : Array Value} {below : List Frame} {meth : Method} {c : Code} {H : Heap} {locs : List Loc} {cells slots : Nat} {Q : State → Prop} {ls : Array Slot} {D : va_G} {κ κm : Nat → Nat} {cI cII cJ : ClassId} {o b L I n : Nat} {xs : Nat → Int32} {σ τ : SX} {z : Int64} {T : TT} {mk : Option Nat} (C : LawC p l s m args c D cI cII cJ κ κm o b L xs) (hI : I + 4 ≤ L) (hLm : L ≤ 2048) (hc : cells + 4 ≤ 601024) (hs : slots + 32 ≤ 7293034) (hT : Sys n T) (h : XI σ n T mk) (g : MI τ n T mk) (hL : LSt D cI cII cJ κ κm o σ τ z H) (hS : va_S (AL s) s.heap H locs) (hl : lv_has ls 9 [(4, .int (nI I)), (3, .ref o), (2, .ref (κm 0)), (1, .ref (κ 0)), (0, .ref b)])
    (kk : ∀ (σ τ : SX) (z : Int64) (n : Nat) (T : TT) (mk : Option Nat) (H : Heap) (locs : List Loc) (ls : Array Slot), Sys n T → XI σ n T mk → MI τ n T mk → LSt D cI cII cJ κ κm o σ τ z H → va_S (AL s) s.heap H locs → lv_has ls 9 [(4, .int (nI I)), (3, .ref o), (2, .ref (κm 0)), (1, .ref (κ 0)), (0, .ref b)] → W p l e room_1 s m args below meth c H locs (cells + 4) (slots + 32) Q (F0 m 1630 ls [])) :
    W p l e room_1 s m args below meth c H locs cells slots Q (F0 m 1104 ls []) := by
  obtain ⟨S, hst, hK, hX, hZ, hJ, hN, hκ, hm, hA, hAm, hAo, hd, ho, hmo, hsc, hbl⟩ := id C
  have hbA : ¬ AL s b := Nat.not_le.mpr hbl
  obtain ⟨hx, hb, hml, hown, hts⟩ := id S
  refine lv_aload_n hx hb dL_law_1104 rfl (lv_at hl 3 rfl) ?_
  obtain ⟨v, σ', τ', eX, eM, h', g'⟩ := sim_lumps hT h g
  refine r_clsi C hL hS (va_runV (As := []) (rest := []) S (met_X3_lumps l D cI cII κ hκ σ v σ' eX) (cwV 0 S.2.2.2.2 gL_law_X3_lumps rfl rfl rfl (by decide +kernel) ⟨Nat.le_of_ble_eq_true rfl, Nat.le_of_ble_eq_true rfl⟩) (g_preV (N := 3) (T := TX3) hK hL.1 (Nat.le_refl _) (by decide) rfl rfl) rfl rfl hl.1 rfl (lv_room (Nat.le_of_ble_eq_true rfl)) dL_law_1105 ⟨(show cells + 0 ≤ 601024 by omega), (show slots + 0 ≤ 7293034 by omega)⟩) (fun H locs hL hS => ?_)
  refine lv_aload_n hx hb dL_law_1108 rfl (lv_at hl 2 rfl) ?_
  refine r_modi C hL hS (va_runV (As := []) (rest := [.int v]) S (met_X4_lumps l D cI cII κm hm τ v τ' eM) (cwV 0 S.2.2.2.2 gL_law_X4_lumps rfl rfl rfl (by decide +kernel) ⟨Nat.le_of_ble_eq_true rfl, Nat.le_of_ble_eq_true rfl⟩) (g_preV (N := 12) (T := TX4) hK hL.2.1 (Nat.le_refl _) (by decide) rfl rfl) rfl rfl hl.1 rfl (lv_room (Nat.le_of_ble_eq_true rfl)) dL_law_1109 ⟨(show cells + 0 ≤ 601024 by omega), (show slots + 0 ≤ 7293034 by omega)⟩) (fun H locs hL hS => ?_)
  refine lv_icmp_eq (tgt := 1630) hx hb dL_law_1112 (by decide) (fun _ => ?_) (fun hh => absurd rfl hh)
  refine W.widen (k := cells + 4) (n := slots + 32) (by omega) (by omega) ?_
  exact kk _ _ _ _ _ _ _ _ _ hT h' g' hL hS (lv_sub hl [0, 1, 2, 3, 4] rfl)

set_option maxRecDepth 100000 in
set_option maxHeartbeats 4000000 in
theorem case_18 {p : Program} {l : Launch} {e : Env} {s : State} {m : MethodId} {args : Array Value} {below : List Frame} {meth : Method} {c : Code} {H : Heap} {locs : List Loc} {cells slots : Nat} {Q : State → Prop} {ls : Array Slot} {D : va_G} {κ κm : Nat → Nat} {cI cII cJ : ClassId} {o b L I n : Nat} {xs : Nat → Int32} {σ τ : SX} {z : Int64} {T : TT} {mk : Option Nat} (C : LawC p l s m args c D cI cII cJ κ κm o b L xs) (hI : I + 4 ≤ L) (hLm : L ≤ 2048) (hc : cells + 4 ≤ 601024) (hs : slots + 32 ≤ 7293034) (hT : Sys n T) (h : XI σ n T mk) (g : MI τ n T mk) (hL : LSt D cI cII cJ κ κm o σ τ z H) (hS : va_S (AL s) s.heap H locs) (hl : lv_has ls 9 [(4, .int (nI I)), (3, .ref o), (2, .ref (κm 0)), (1, .ref (κ 0)), (0, .ref b)])
    (kk : ∀ (σ τ : SX) (z : Int64) (n : Nat) (T : TT) (mk : Option Nat) (H : Heap) (locs : List Loc) (ls : Array Slot), Sys n T → XI σ n T mk → MI τ n T mk → LSt D cI cII cJ κ κm o σ τ z H → va_S (AL s) s.heap H locs → lv_has ls 9 [(4, .int (nI I)), (3, .ref o), (2, .ref (κm 0)), (1, .ref (κ 0)), (0, .ref b)] → W p l e room_1 s m args below meth c H locs (cells + 4) (slots + 32) Q (F0 m 1630 ls [])) :
    W p l e room_1 s m args below meth c H locs cells slots Q (F0 m 1117 ls []) := by
  obtain ⟨S, hst, hK, hX, hZ, hJ, hN, hκ, hm, hA, hAm, hAo, hd, ho, hmo, hsc, hbl⟩ := id C
  have hbA : ¬ AL s b := Nat.not_le.mpr hbl
  obtain ⟨hx, hb, hml, hown, hts⟩ := id S
  refine lv_aload_n hx hb dL_law_1117 rfl (lv_at hl 3 rfl) ?_
  obtain ⟨v, σ', τ', eX, eM, h', g'⟩ := sim_leaks hT h g
  refine r_clsi C hL hS (va_runV (As := []) (rest := []) S (met_X3_leaks l D cI cII κ hκ σ v σ' eX) (cwV 0 S.2.2.2.2 gL_law_X3_leaks rfl rfl rfl (by decide +kernel) ⟨Nat.le_of_ble_eq_true rfl, Nat.le_of_ble_eq_true rfl⟩) (g_preV (N := 3) (T := TX3) hK hL.1 (Nat.le_refl _) (by decide) rfl rfl) rfl rfl hl.1 rfl (lv_room (Nat.le_of_ble_eq_true rfl)) dL_law_1118 ⟨(show cells + 0 ≤ 601024 by omega), (show slots + 0 ≤ 7293034 by omega)⟩) (fun H locs hL hS => ?_)
  refine lv_aload_n hx hb dL_law_1121 rfl (lv_at hl 2 rfl) ?_
  refine r_modi C hL hS (va_runV (As := []) (rest := [.int v]) S (met_X4_leaks l D cI cII κm hm τ v τ' eM) (cwV 0 S.2.2.2.2 gL_law_X4_leaks rfl rfl rfl (by decide +kernel) ⟨Nat.le_of_ble_eq_true rfl, Nat.le_of_ble_eq_true rfl⟩) (g_preV (N := 12) (T := TX4) hK hL.2.1 (Nat.le_refl _) (by decide) rfl rfl) rfl rfl hl.1 rfl (lv_room (Nat.le_of_ble_eq_true rfl)) dL_law_1122 ⟨(show cells + 0 ≤ 601024 by omega), (show slots + 0 ≤ 7293034 by omega)⟩) (fun H locs hL hS => ?_)
  refine lv_icmp_eq (tgt := 1630) hx hb dL_law_1125 (by decide) (fun _ => ?_) (fun hh => absurd rfl hh)
  refine W.widen (k := cells + 4) (n := slots + 32) (by omega) (by omega) ?_
  exact kk _ _ _ _ _ _ _ _ _ hT h' g' hL hS (lv_sub hl [0, 1, 2, 3, 4] rfl)

set_option maxRecDepth 100000 in
set_option maxHeartbeats 4000000 in
theorem case_19 {p : Program} {l : Launch} {e : Env} {s : State} {m : MethodId} {args : Array Value} {below : List Frame} {meth : Method} {c : Code} {H : Heap} {locs : List Loc} {cells slots : Nat} {Q : State → Prop} {ls : Array Slot} {D : va_G} {κ κm : Nat → Nat} {cI cII cJ : ClassId} {o b L I n : Nat} {xs : Nat → Int32} {σ τ : SX} {z : Int64} {T : TT} {mk : Option Nat} (C : LawC p l s m args c D cI cII cJ κ κm o b L xs) (hI : I + 4 ≤ L) (hLm : L ≤ 2048) (hc : cells + 4 ≤ 601024) (hs : slots + 32 ≤ 7293034) (hT : Sys n T) (h : XI σ n T mk) (g : MI τ n T mk) (hL : LSt D cI cII cJ κ κm o σ τ z H) (hS : va_S (AL s) s.heap H locs) (hl : lv_has ls 9 [(4, .int (nI I)), (3, .ref o), (2, .ref (κm 0)), (1, .ref (κ 0)), (0, .ref b)])
    (kk : ∀ (σ τ : SX) (z : Int64) (n : Nat) (T : TT) (mk : Option Nat) (H : Heap) (locs : List Loc) (ls : Array Slot), Sys n T → XI σ n T mk → MI τ n T mk → LSt D cI cII cJ κ κm o σ τ z H → va_S (AL s) s.heap H locs → lv_has ls 9 [(4, .int (nI I)), (3, .ref o), (2, .ref (κm 0)), (1, .ref (κ 0)), (0, .ref b)] → W p l e room_1 s m args below meth c H locs (cells + 4) (slots + 32) Q (F0 m 1630 ls [])) :
    W p l e room_1 s m args below meth c H locs cells slots Q (F0 m 1130 ls []) := by
  obtain ⟨S, hst, hK, hX, hZ, hJ, hN, hκ, hm, hA, hAm, hAo, hd, ho, hmo, hsc, hbl⟩ := id C
  have hbA : ¬ AL s b := Nat.not_le.mpr hbl
  obtain ⟨hx, hb, hml, hown, hts⟩ := id S
  refine lv_aload_n hx hb dL_law_1130 rfl (lv_at hl 3 rfl) ?_
  obtain ⟨v, σ', τ', eX, eM, h', g'⟩ := sim_fidelity hT h g
  refine r_clsd C hL hS (va_runV (As := []) (rest := []) S (met_X3_fidelity l D cI cII κ hκ σ v σ' eX) (cwV 0 S.2.2.2.2 gL_law_X3_fidelity rfl rfl rfl (by decide +kernel) ⟨Nat.le_of_ble_eq_true rfl, Nat.le_of_ble_eq_true rfl⟩) (g_preV (N := 3) (T := TX3) hK hL.1 (Nat.le_refl _) (by decide) rfl rfl) rfl rfl hl.1 rfl (lv_room (Nat.le_of_ble_eq_true rfl)) dL_law_1131 ⟨(show cells + 0 ≤ 601024 by omega), (show slots + 0 ≤ 7293034 by omega)⟩) (fun H locs hL hS => ?_)
  refine lv_dstore (lv' := [(5, .double v), (4, .int (nI I)), (3, .ref o), (2, .ref (κm 0)), (1, .ref (κ 0)), (0, .ref b)]) hx hb dL_law_1134 hl (by decide) rfl (fun ls hl => ?_)
  refine lv_aload_n hx hb dL_law_1136 rfl (lv_at hl 3 rfl) ?_
  refine r_modd C hL hS (va_runV (As := []) (rest := []) S (met_X4_fidelity l D cI cII κm hm τ v τ' eM) (cwV 0 S.2.2.2.2 gL_law_X4_fidelity rfl rfl rfl (by decide +kernel) ⟨Nat.le_of_ble_eq_true rfl, Nat.le_of_ble_eq_true rfl⟩) (g_preV (N := 12) (T := TX4) hK hL.2.1 (Nat.le_refl _) (by decide) rfl rfl) rfl rfl hl.1 rfl (lv_room (Nat.le_of_ble_eq_true rfl)) dL_law_1137 ⟨(show cells + 0 ≤ 601024 by omega), (show slots + 0 ≤ 7293034 by omega)⟩) (fun H locs hL hS => ?_)
  refine lv_dstore (lv' := [(7, .double v), (5, .double v), (4, .int (nI I)), (3, .ref o), (2, .ref (κm 0)), (1, .ref (κ 0)), (0, .ref b)]) hx hb dL_law_1140 hl (by decide) rfl (fun ls hl => ?_)
  refine lv_dload hx hb dL_law_1142 (lv_at hl 1 rfl) ?_
  refine lv_dload hx hb dL_law_1144 (lv_at hl 0 rfl) ?_
  refine lv_dcmp hx hb dL_law_1146 ?_
  obtain ⟨w0, hw0⟩ : ∃ w, w = Op.cmpValue (FP.dcmp v v) CmpOp.l := ⟨_, rfl⟩
  rw [← hw0]
  refine lv_if_eq (tgt := 1168) hx hb dL_law_1147 (by decide) (fun cw => ?_) (fun cw => ?_)
  · skip
    refine lv_goto (tgt := 1630) hx hb dL_law_1168 (by decide) ?_
    refine W.widen (k := cells + 4) (n := slots + 32) (by omega) (by omega) ?_
    exact kk _ _ _ _ _ _ _ _ _ hT h' g' hL hS (lv_sub hl [2, 3, 4, 5, 6] rfl)
  · skip
    refine lv_dload hx hb dL_law_1150 (lv_at hl 1 rfl) ?_
    refine lv_dload hx hb dL_law_1152 (lv_at hl 1 rfl) ?_
    refine lv_dcmp hx hb dL_law_1154 ?_
    rw [← hw0]
    refine lv_if_eq (tgt := 1166) hx hb dL_law_1155 (by decide) (fun hh => absurd hh cw) (fun _ => ?_)
    refine lv_dload hx hb dL_law_1158 (lv_at hl 0 rfl) ?_
    refine lv_dload hx hb dL_law_1160 (lv_at hl 0 rfl) ?_
    refine lv_dcmp hx hb dL_law_1162 ?_
    rw [← hw0]
    refine lv_if_ne (tgt := 1168) hx hb dL_law_1163 (by decide) (fun _ => ?_) (fun hh => absurd hh cw)
    refine lv_goto (tgt := 1630) hx hb dL_law_1168 (by decide) ?_
    refine W.widen (k := cells + 4) (n := slots + 32) (by omega) (by omega) ?_
    exact kk _ _ _ _ _ _ _ _ _ hT h' g' hL hS (lv_sub hl [2, 3, 4, 5, 6] rfl)

set_option maxRecDepth 100000 in
set_option maxHeartbeats 4000000 in
theorem case_20 {p : Program} {l : Launch} {e : Env} {s : State} {m : MethodId} {args : Array Value} {below : List Frame} {meth : Method} {c : Code} {H : Heap} {locs : List Loc} {cells slots : Nat} {Q : State → Prop} {ls : Array Slot} {D : va_G} {κ κm : Nat → Nat} {cI cII cJ : ClassId} {o b L I n : Nat} {xs : Nat → Int32} {σ τ : SX} {z : Int64} {T : TT} {mk : Option Nat} (C : LawC p l s m args c D cI cII cJ κ κm o b L xs) (hI : I + 4 ≤ L) (hLm : L ≤ 2048) (hc : cells + 4 ≤ 601024) (hs : slots + 32 ≤ 7293034) (hT : Sys n T) (h : XI σ n T mk) (g : MI τ n T mk) (hL : LSt D cI cII cJ κ κm o σ τ z H) (hS : va_S (AL s) s.heap H locs) (hl : lv_has ls 9 [(4, .int (nI I)), (3, .ref o), (2, .ref (κm 0)), (1, .ref (κ 0)), (0, .ref b)])
    (kk : ∀ (σ τ : SX) (z : Int64) (n : Nat) (T : TT) (mk : Option Nat) (H : Heap) (locs : List Loc) (ls : Array Slot), Sys n T → XI σ n T mk → MI τ n T mk → LSt D cI cII cJ κ κm o σ τ z H → va_S (AL s) s.heap H locs → lv_has ls 9 [(4, .int (nI I)), (3, .ref o), (2, .ref (κm 0)), (1, .ref (κ 0)), (0, .ref b)] → W p l e room_1 s m args below meth c H locs (cells + 4) (slots + 32) Q (F0 m 1630 ls [])) :
    W p l e room_1 s m args below meth c H locs cells slots Q (F0 m 1171 ls []) := by
  obtain ⟨S, hst, hK, hX, hZ, hJ, hN, hκ, hm, hA, hAm, hAo, hd, ho, hmo, hsc, hbl⟩ := id C
  have hbA : ¬ AL s b := Nat.not_le.mpr hbl
  obtain ⟨hx, hb, hml, hown, hts⟩ := id S
  refine lv_aload_n hx hb dL_law_1171 rfl (lv_at hl 3 rfl) ?_
  obtain ⟨v, σ', τ', mk', eX, eM, h', g'⟩ := sim_makeNet hT h g
  refine r_clsi C hL hS (va_runV (As := []) (rest := []) S (met_X3_makeNet l D cI cII κ hκ σ v σ' eX) (cwV 0 S.2.2.2.2 gL_law_X3_makeNet rfl rfl rfl (by decide +kernel) ⟨Nat.le_of_ble_eq_true rfl, Nat.le_of_ble_eq_true rfl⟩) (g_preV (N := 3) (T := TX3) hK hL.1 (Nat.le_refl _) (by decide) rfl rfl) rfl rfl hl.1 rfl (lv_room (Nat.le_of_ble_eq_true rfl)) dL_law_1172 ⟨(show cells + 0 ≤ 601024 by omega), (show slots + 0 ≤ 7293034 by omega)⟩) (fun H locs hL hS => ?_)
  refine lv_aload_n hx hb dL_law_1175 rfl (lv_at hl 2 rfl) ?_
  refine r_modi C hL hS (va_runV (As := []) (rest := [.int v]) S (met_X4_makeNet l D cI cII κm hm τ v τ' eM) (cwV 0 S.2.2.2.2 gL_law_X4_makeNet rfl rfl rfl (by decide +kernel) ⟨Nat.le_of_ble_eq_true rfl, Nat.le_of_ble_eq_true rfl⟩) (g_preV (N := 12) (T := TX4) hK hL.2.1 (Nat.le_refl _) (by decide) rfl rfl) rfl rfl hl.1 rfl (lv_room (Nat.le_of_ble_eq_true rfl)) dL_law_1176 ⟨(show cells + 0 ≤ 601024 by omega), (show slots + 0 ≤ 7293034 by omega)⟩) (fun H locs hL hS => ?_)
  refine lv_icmp_eq (tgt := 1630) hx hb dL_law_1179 (by decide) (fun _ => ?_) (fun hh => absurd rfl hh)
  refine W.widen (k := cells + 4) (n := slots + 32) (by omega) (by omega) ?_
  exact kk _ _ _ _ _ _ _ _ _ hT h' g' hL hS (lv_sub hl [0, 1, 2, 3, 4] rfl)

set_option maxRecDepth 100000 in
set_option maxHeartbeats 4000000 in
theorem case_21 {p : Program} {l : Launch} {e : Env} {s : State} {m : MethodId} {args : Array Value} {below : List Frame} {meth : Method} {c : Code} {H : Heap} {locs : List Loc} {cells slots : Nat} {Q : State → Prop} {ls : Array Slot} {D : va_G} {κ κm : Nat → Nat} {cI cII cJ : ClassId} {o b L I n : Nat} {xs : Nat → Int32} {σ τ : SX} {z : Int64} {T : TT} {mk : Option Nat} (C : LawC p l s m args c D cI cII cJ κ κm o b L xs) (hI : I + 4 ≤ L) (hLm : L ≤ 2048) (hc : cells + 4 ≤ 601024) (hs : slots + 32 ≤ 7293034) (hT : Sys n T) (h : XI σ n T mk) (g : MI τ n T mk) (hL : LSt D cI cII cJ κ κm o σ τ z H) (hS : va_S (AL s) s.heap H locs) (hl : lv_has ls 9 [(4, .int (nI I)), (3, .ref o), (2, .ref (κm 0)), (1, .ref (κ 0)), (0, .ref b)])
    (kk : ∀ (σ τ : SX) (z : Int64) (n : Nat) (T : TT) (mk : Option Nat) (H : Heap) (locs : List Loc) (ls : Array Slot), Sys n T → XI σ n T mk → MI τ n T mk → LSt D cI cII cJ κ κm o σ τ z H → va_S (AL s) s.heap H locs → lv_has ls 9 [(4, .int (nI I)), (3, .ref o), (2, .ref (κm 0)), (1, .ref (κ 0)), (0, .ref b)] → W p l e room_1 s m args below meth c H locs (cells + 4) (slots + 32) Q (F0 m 1630 ls [])) :
    W p l e room_1 s m args below meth c H locs cells slots Q (F0 m 1184 ls []) := by
  obtain ⟨S, hst, hK, hX, hZ, hJ, hN, hκ, hm, hA, hAm, hAo, hd, ho, hmo, hsc, hbl⟩ := id C
  have hbA : ¬ AL s b := Nat.not_le.mpr hbl
  obtain ⟨hx, hb, hml, hown, hts⟩ := id S
  refine lv_aload_n hx hb dL_law_1184 rfl (lv_at hl 3 rfl) ?_
  obtain ⟨v, τ', eX, eM, g'⟩ := sim_hasNet hT h g
  refine r_clsi C hL hS (va_runV (As := []) (rest := []) S (met_X3_hasNet l D cI cII κ hκ σ v eX) (cwV 0 S.2.2.2.2 gL_law_X3_hasNet rfl rfl rfl (by decide +kernel) ⟨Nat.le_of_ble_eq_true rfl, Nat.le_of_ble_eq_true rfl⟩) (g_preV (N := 3) (T := TX3) hK hL.1 (Nat.le_refl _) (by decide) rfl rfl) rfl rfl hl.1 rfl (lv_room (Nat.le_of_ble_eq_true rfl)) dL_law_1185 ⟨(show cells + 0 ≤ 601024 by omega), (show slots + 0 ≤ 7293034 by omega)⟩) (fun H locs hL hS => ?_)
  refine lv_aload_n hx hb dL_law_1188 rfl (lv_at hl 2 rfl) ?_
  refine r_modi C hL hS (va_runV (As := []) (rest := [.int v]) S (met_X4_hasNet l D cI cII κm hm τ v τ' eM) (cwV 0 S.2.2.2.2 gL_law_X4_hasNet rfl rfl rfl (by decide +kernel) ⟨Nat.le_of_ble_eq_true rfl, Nat.le_of_ble_eq_true rfl⟩) (g_preV (N := 12) (T := TX4) hK hL.2.1 (Nat.le_refl _) (by decide) rfl rfl) rfl rfl hl.1 rfl (lv_room (Nat.le_of_ble_eq_true rfl)) dL_law_1189 ⟨(show cells + 0 ≤ 601024 by omega), (show slots + 0 ≤ 7293034 by omega)⟩) (fun H locs hL hS => ?_)
  refine lv_icmp_eq (tgt := 1630) hx hb dL_law_1192 (by decide) (fun _ => ?_) (fun hh => absurd rfl hh)
  refine W.widen (k := cells + 4) (n := slots + 32) (by omega) (by omega) ?_
  exact kk _ _ _ _ _ _ _ _ _ hT h g' hL hS (lv_sub hl [0, 1, 2, 3, 4] rfl)

set_option maxRecDepth 100000 in
set_option maxHeartbeats 4000000 in
theorem case_22 {p : Program} {l : Launch} {e : Env} {s : State} {m : MethodId} {args : Array Value} {below : List Frame} {meth : Method} {c : Code} {H : Heap} {locs : List Loc} {cells slots : Nat} {Q : State → Prop} {ls : Array Slot} {D : va_G} {κ κm : Nat → Nat} {cI cII cJ : ClassId} {o b L I n : Nat} {xs : Nat → Int32} {σ τ : SX} {z : Int64} {T : TT} {mk : Option Nat} (C : LawC p l s m args c D cI cII cJ κ κm o b L xs) (hI : I + 4 ≤ L) (hLm : L ≤ 2048) (hc : cells + 4 ≤ 601024) (hs : slots + 32 ≤ 7293034) (hT : Sys n T) (h : XI σ n T mk) (g : MI τ n T mk) (hL : LSt D cI cII cJ κ κm o σ τ z H) (hS : va_S (AL s) s.heap H locs) (hl : lv_has ls 9 [(4, .int (nI I)), (3, .ref o), (2, .ref (κm 0)), (1, .ref (κ 0)), (0, .ref b)])
    (kk : ∀ (σ τ : SX) (z : Int64) (n : Nat) (T : TT) (mk : Option Nat) (H : Heap) (locs : List Loc) (ls : Array Slot), Sys n T → XI σ n T mk → MI τ n T mk → LSt D cI cII cJ κ κm o σ τ z H → va_S (AL s) s.heap H locs → lv_has ls 9 [(4, .int (nI I)), (3, .ref o), (2, .ref (κm 0)), (1, .ref (κ 0)), (0, .ref b)] → W p l e room_1 s m args below meth c H locs (cells + 4) (slots + 32) Q (F0 m 1630 ls [])) :
    W p l e room_1 s m args below meth c H locs cells slots Q (F0 m 1197 ls []) := by
  obtain ⟨S, hst, hK, hX, hZ, hJ, hN, hκ, hm, hA, hAm, hAo, hd, ho, hmo, hsc, hbl⟩ := id C
  have hbA : ¬ AL s b := Nat.not_le.mpr hbl
  obtain ⟨hx, hb, hml, hown, hts⟩ := id S
  refine lv_aload_n hx hb dL_law_1197 rfl (lv_at hl 3 rfl) ?_
  refine lv_aload_n hx hb dL_law_1198 rfl (lv_at hl 4 rfl) ?_
  refine lv_iload hx hb dL_law_1199 (lv_at hl 0 rfl) ?_
  refine lv_iconst (v := 1) hx hb dL_law_1201 (by decide) ?_
  refine lv_iadd hx hb dL_law_1202 ?_
  refine va_sld hx hb hsc hbl hbA hS (sc_in (k := 1) hI hLm (by decide)) dL_law_1203 ?_
  refine lv_aload_n hx hb dL_law_1204 rfl (lv_at hl 1 rfl) ?_
  obtain ⟨R9, σ', kk0, z', v, τ', n', T', mk', eX, eW, eM, hT', h', g', hkk, hz⟩ := sim_placeRegion (z := z) hT h g (xs ((nI I) + 1).toNatClampNeg)
  refine r_wrap C hL hS (vx_runSX (As := [.ref (κ 0), .int (xs ((nI I) + 1).toNatClampNeg), .ref o]) (rest := []) S (lw_placeRegion l hst D cI cII cJ κ hκ o ho σ (xs ((nI I) + 1).toNatClampNeg) z _ R9 σ' kk0 z' eX eW) (vx_cwSW 3 S.2.2.2.2 gL_law_L_placeRegion rfl rfl rfl (by decide +kernel) ⟨Nat.le_of_ble_eq_true rfl, Nat.le_of_ble_eq_true rfl⟩) (r_preW C hL hS) rfl rfl hl.1 rfl (lv_room (Nat.le_of_ble_eq_true rfl)) dL_law_1205 ⟨(show cells + 2 ≤ 601024 by omega), (show slots + 12 ≤ 7293034 by omega)⟩) (fun H locs hL hS => ?_)
  refine lv_istore (lv' := [(5, .int kk0), (4, .int (nI I)), (3, .ref o), (2, .ref (κm 0)), (1, .ref (κ 0)), (0, .ref b)]) hx hb dL_law_1208 hl (by decide) rfl (fun ls hl => ?_)
  refine lv_aload_n hx hb dL_law_1210 rfl (lv_at hl 3 rfl) ?_
  refine lv_aload_n hx hb dL_law_1211 rfl (lv_at hl 5 rfl) ?_
  refine lv_iload hx hb dL_law_1212 (lv_at hl 1 rfl) ?_
  refine lv_iconst (v := 1) hx hb dL_law_1214 (by decide) ?_
  refine lv_iadd hx hb dL_law_1215 ?_
  refine va_sld hx hb hsc hbl hbA hS (sc_in (k := 1) hI hLm (by decide)) dL_law_1216 ?_
  refine r_modi C hL hS (va_runV (As := [.int (xs ((nI I) + 1).toNatClampNeg)]) (rest := []) S (met_X4_placeRegion l D cI cII κm hm τ (xs ((nI I) + 1).toNatClampNeg) v τ' eM) (cwV 1 S.2.2.2.2 gL_law_X4_placeRegion rfl rfl rfl (by decide +kernel) ⟨Nat.le_of_ble_eq_true rfl, Nat.le_of_ble_eq_true rfl⟩) (g_preV (N := 12) (T := TX4) hK hL.2.1 (Nat.le_refl _) (by decide) rfl rfl) rfl rfl hl.1 rfl (lv_room (Nat.le_of_ble_eq_true rfl)) dL_law_1217 ⟨(show cells + 2 + 0 ≤ 601024 by omega), (show slots + 12 + 0 ≤ 7293034 by omega)⟩) (fun H locs hL hS => ?_)
  refine lv_istore (lv' := [(6, .int v), (5, .int kk0), (4, .int (nI I)), (3, .ref o), (2, .ref (κm 0)), (1, .ref (κ 0)), (0, .ref b)]) hx hb dL_law_1220 hl (by decide) rfl (fun ls hl => ?_)
  refine lv_aload_n hx hb dL_law_1222 rfl (lv_at hl 4 rfl) ?_
  refine r_modi C hL hS (va_runV (As := []) (rest := []) S (met_X4_thrown l D cI cII κm hm τ' kk0 (show fn_X4_thrown τ' = some kk0 from congrArg some hkk)) (cwV 0 S.2.2.2.2 gL_law_X4_thrown rfl rfl rfl (by decide +kernel) ⟨Nat.le_of_ble_eq_true rfl, Nat.le_of_ble_eq_true rfl⟩) (g_preV (N := 12) (T := TX4) hK hL.2.1 (Nat.le_refl _) (by decide) rfl rfl) rfl rfl hl.1 rfl (lv_room (Nat.le_of_ble_eq_true rfl)) dL_law_1223 ⟨(show cells + 2 + 0 ≤ 601024 by omega), (show slots + 12 + 0 ≤ 7293034 by omega)⟩) (fun H locs hL hS => ?_)
  refine lv_iload hx hb dL_law_1226 (lv_at hl 1 rfl) ?_
  refine lv_icmp_eq (tgt := 1233) hx hb dL_law_1228 (by decide) (fun _ => ?_) (fun hh => absurd rfl hh)
  refine lv_iload hx hb dL_law_1233 (lv_at hl 1 rfl) ?_
  refine lv_if_ne (tgt := 1250) hx hb dL_law_1235 (by decide) (fun ck => ?_) (fun ck => ?_)
  · skip
    refine lv_goto (tgt := 1630) hx hb dL_law_1250 (by decide) ?_
    refine W.widen (k := cells + 4) (n := slots + 32) (by omega) (by omega) ?_
    exact kk _ _ _ _ _ _ _ _ _ hT' h' g' hL hS (lv_sub hl [2, 3, 4, 5, 6] rfl)
  · have hz := hz ck
    refine lv_aload_n hx hb dL_law_1238 rfl (lv_at hl 3 rfl) ?_
    refine lv_iconst (v := 0) hx hb dL_law_1239 (by decide) ?_
    refine r_lald C hL dL_law_1240 ?_
    refine lv_iload hx hb dL_law_1241 (lv_at hl 0 rfl) ?_
    refine lv_i2l (v := v.toInt64) hx hb dL_law_1243 rfl ?_
    rw [show z' = v.toInt64 from hz]
    refine lv_lcmp0 hx hb dL_law_1244 ?_
    refine lv_if_eq (tgt := 1250) hx hb dL_law_1245 (by decide) (fun _ => ?_) (fun hh => absurd rfl hh)
    refine lv_goto (tgt := 1630) hx hb dL_law_1250 (by decide) ?_
    refine W.widen (k := cells + 4) (n := slots + 32) (by omega) (by omega) ?_
    exact kk _ _ _ _ _ _ _ _ _ hT' h' g' hL hS (lv_sub hl [2, 3, 4, 5, 6] rfl)

set_option maxRecDepth 100000 in
set_option maxHeartbeats 4000000 in
theorem case_23 {p : Program} {l : Launch} {e : Env} {s : State} {m : MethodId} {args : Array Value} {below : List Frame} {meth : Method} {c : Code} {H : Heap} {locs : List Loc} {cells slots : Nat} {Q : State → Prop} {ls : Array Slot} {D : va_G} {κ κm : Nat → Nat} {cI cII cJ : ClassId} {o b L I n : Nat} {xs : Nat → Int32} {σ τ : SX} {z : Int64} {T : TT} {mk : Option Nat} (C : LawC p l s m args c D cI cII cJ κ κm o b L xs) (hI : I + 4 ≤ L) (hLm : L ≤ 2048) (hc : cells + 4 ≤ 601024) (hs : slots + 32 ≤ 7293034) (hT : Sys n T) (h : XI σ n T mk) (g : MI τ n T mk) (hL : LSt D cI cII cJ κ κm o σ τ z H) (hS : va_S (AL s) s.heap H locs) (hl : lv_has ls 9 [(4, .int (nI I)), (3, .ref o), (2, .ref (κm 0)), (1, .ref (κ 0)), (0, .ref b)])
    (kk : ∀ (σ τ : SX) (z : Int64) (n : Nat) (T : TT) (mk : Option Nat) (H : Heap) (locs : List Loc) (ls : Array Slot), Sys n T → XI σ n T mk → MI τ n T mk → LSt D cI cII cJ κ κm o σ τ z H → va_S (AL s) s.heap H locs → lv_has ls 9 [(4, .int (nI I)), (3, .ref o), (2, .ref (κm 0)), (1, .ref (κ 0)), (0, .ref b)] → W p l e room_1 s m args below meth c H locs (cells + 4) (slots + 32) Q (F0 m 1630 ls [])) :
    W p l e room_1 s m args below meth c H locs cells slots Q (F0 m 1253 ls []) := by
  obtain ⟨S, hst, hK, hX, hZ, hJ, hN, hκ, hm, hA, hAm, hAo, hd, ho, hmo, hsc, hbl⟩ := id C
  have hbA : ¬ AL s b := Nat.not_le.mpr hbl
  obtain ⟨hx, hb, hml, hown, hts⟩ := id S
  refine lv_aload_n hx hb dL_law_1253 rfl (lv_at hl 3 rfl) ?_
  refine lv_aload_n hx hb dL_law_1254 rfl (lv_at hl 4 rfl) ?_
  refine lv_iload hx hb dL_law_1255 (lv_at hl 0 rfl) ?_
  refine lv_iconst (v := 1) hx hb dL_law_1257 (by decide) ?_
  refine lv_iadd hx hb dL_law_1258 ?_
  refine va_sld hx hb hsc hbl hbA hS (sc_in (k := 1) hI hLm (by decide)) dL_law_1259 ?_
  refine lv_aload_n hx hb dL_law_1260 rfl (lv_at hl 1 rfl) ?_
  obtain ⟨R9, σ', kk0, z', v, τ', n', T', mk', eX, eW, eM, hT', h', g', hkk, hz⟩ := sim_consumed (z := z) hT h g (xs ((nI I) + 1).toNatClampNeg)
  refine r_wrap C hL hS (vx_runSX (As := [.ref (κ 0), .int (xs ((nI I) + 1).toNatClampNeg), .ref o]) (rest := []) S (lw_consumed l hst D cI cII cJ κ hκ o ho σ (xs ((nI I) + 1).toNatClampNeg) z _ R9 σ' kk0 z' eX eW) (vx_cwSW 3 S.2.2.2.2 gL_law_L_consumed rfl rfl rfl (by decide +kernel) ⟨Nat.le_of_ble_eq_true rfl, Nat.le_of_ble_eq_true rfl⟩) (r_preW C hL hS) rfl rfl hl.1 rfl (lv_room (Nat.le_of_ble_eq_true rfl)) dL_law_1261 ⟨(show cells + 2 ≤ 601024 by omega), (show slots + 12 ≤ 7293034 by omega)⟩) (fun H locs hL hS => ?_)
  refine lv_istore (lv' := [(5, .int kk0), (4, .int (nI I)), (3, .ref o), (2, .ref (κm 0)), (1, .ref (κ 0)), (0, .ref b)]) hx hb dL_law_1264 hl (by decide) rfl (fun ls hl => ?_)
  refine lv_aload_n hx hb dL_law_1266 rfl (lv_at hl 3 rfl) ?_
  refine lv_aload_n hx hb dL_law_1267 rfl (lv_at hl 5 rfl) ?_
  refine lv_iload hx hb dL_law_1268 (lv_at hl 1 rfl) ?_
  refine lv_iconst (v := 1) hx hb dL_law_1270 (by decide) ?_
  refine lv_iadd hx hb dL_law_1271 ?_
  refine va_sld hx hb hsc hbl hbA hS (sc_in (k := 1) hI hLm (by decide)) dL_law_1272 ?_
  refine r_modi C hL hS (va_runV (As := [.int (xs ((nI I) + 1).toNatClampNeg)]) (rest := []) S (met_X4_consumed l D cI cII κm hm τ (xs ((nI I) + 1).toNatClampNeg) v τ' eM) (cwV 1 S.2.2.2.2 gL_law_X4_consumed rfl rfl rfl (by decide +kernel) ⟨Nat.le_of_ble_eq_true rfl, Nat.le_of_ble_eq_true rfl⟩) (g_preV (N := 12) (T := TX4) hK hL.2.1 (Nat.le_refl _) (by decide) rfl rfl) rfl rfl hl.1 rfl (lv_room (Nat.le_of_ble_eq_true rfl)) dL_law_1273 ⟨(show cells + 2 + 0 ≤ 601024 by omega), (show slots + 12 + 0 ≤ 7293034 by omega)⟩) (fun H locs hL hS => ?_)
  refine lv_istore (lv' := [(6, .int v), (5, .int kk0), (4, .int (nI I)), (3, .ref o), (2, .ref (κm 0)), (1, .ref (κ 0)), (0, .ref b)]) hx hb dL_law_1276 hl (by decide) rfl (fun ls hl => ?_)
  refine lv_aload_n hx hb dL_law_1278 rfl (lv_at hl 4 rfl) ?_
  refine r_modi C hL hS (va_runV (As := []) (rest := []) S (met_X4_thrown l D cI cII κm hm τ' kk0 (show fn_X4_thrown τ' = some kk0 from congrArg some hkk)) (cwV 0 S.2.2.2.2 gL_law_X4_thrown rfl rfl rfl (by decide +kernel) ⟨Nat.le_of_ble_eq_true rfl, Nat.le_of_ble_eq_true rfl⟩) (g_preV (N := 12) (T := TX4) hK hL.2.1 (Nat.le_refl _) (by decide) rfl rfl) rfl rfl hl.1 rfl (lv_room (Nat.le_of_ble_eq_true rfl)) dL_law_1279 ⟨(show cells + 2 + 0 ≤ 601024 by omega), (show slots + 12 + 0 ≤ 7293034 by omega)⟩) (fun H locs hL hS => ?_)
  refine lv_iload hx hb dL_law_1282 (lv_at hl 1 rfl) ?_
  refine lv_icmp_eq (tgt := 1289) hx hb dL_law_1284 (by decide) (fun _ => ?_) (fun hh => absurd rfl hh)
  refine lv_iload hx hb dL_law_1289 (lv_at hl 1 rfl) ?_
  refine lv_if_ne (tgt := 1306) hx hb dL_law_1291 (by decide) (fun ck => ?_) (fun ck => ?_)
  · skip
    refine lv_goto (tgt := 1630) hx hb dL_law_1306 (by decide) ?_
    refine W.widen (k := cells + 4) (n := slots + 32) (by omega) (by omega) ?_
    exact kk _ _ _ _ _ _ _ _ _ hT' h' g' hL hS (lv_sub hl [2, 3, 4, 5, 6] rfl)
  · have hz := hz ck
    refine lv_aload_n hx hb dL_law_1294 rfl (lv_at hl 3 rfl) ?_
    refine lv_iconst (v := 0) hx hb dL_law_1295 (by decide) ?_
    refine r_lald C hL dL_law_1296 ?_
    refine lv_iload hx hb dL_law_1297 (lv_at hl 0 rfl) ?_
    refine lv_i2l (v := v.toInt64) hx hb dL_law_1299 rfl ?_
    rw [show z' = v.toInt64 from hz]
    refine lv_lcmp0 hx hb dL_law_1300 ?_
    refine lv_if_eq (tgt := 1306) hx hb dL_law_1301 (by decide) (fun _ => ?_) (fun hh => absurd rfl hh)
    refine lv_goto (tgt := 1630) hx hb dL_law_1306 (by decide) ?_
    refine W.widen (k := cells + 4) (n := slots + 32) (by omega) (by omega) ?_
    exact kk _ _ _ _ _ _ _ _ _ hT' h' g' hL hS (lv_sub hl [2, 3, 4, 5, 6] rfl)

