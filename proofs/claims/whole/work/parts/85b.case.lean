/-! 85b: by wip/whole/gencase.py: the calls of the law, one by one -/
set_option maxRecDepth 100000 in
set_option maxHeartbeats 4000000 in
theorem case_8 {p : Program} {l : Launch} {e : Env} {s : State} {m : MethodId} {args : Array Value} {below : List Frame} {meth : Method} {c : Code} {H : Heap} {locs : List Loc} {cells slots : Nat} {Q : State → Prop} {ls : Array Slot} {D : va_G} {κ κm : Nat → Nat} {cI cII cJ : ClassId} {o b L I n : Nat} {xs : Nat → Int32} {σ τ : SX} {z : Int64} {T : TT} {mk : Option Nat} (C : LawC p l s m args c D cI cII cJ κ κm o b L xs) (hI : I + 4 ≤ L) (hLm : L ≤ 2048) (hc : cells + 4 ≤ 601024) (hs : slots + 32 ≤ 7293034) (hT : Sys n T) (h : XI σ n T mk) (g : MI τ n T mk) (hL : LSt D cI cII cJ κ κm o σ τ z H) (hS : va_S (AL s) s.heap H locs) (hl : lv_has ls 9 [(4, .int (nI I)), (3, .ref o), (2, .ref (κm 0)), (1, .ref (κ 0)), (0, .ref b)])
    (kk : ∀ (σ τ : SX) (z : Int64) (n : Nat) (T : TT) (mk : Option Nat) (H : Heap) (locs : List Loc) (ls : Array Slot), Sys n T → XI σ n T mk → MI τ n T mk → LSt D cI cII cJ κ κm o σ τ z H → va_S (AL s) s.heap H locs → lv_has ls 9 [(4, .int (nI I)), (3, .ref o), (2, .ref (κm 0)), (1, .ref (κ 0)), (0, .ref b)] → W p l e room_1 s m args below meth c H locs (cells + 4) (slots + 32) Q (F0 m 1630 ls [])) :
    W p l e room_1 s m args below meth c H locs cells slots Q (F0 m 593 ls []) := by
  obtain ⟨S, hst, hK, hX, hZ, hJ, hN, hκ, hm, hA, hAm, hAo, hd, ho, hmo, hsc, hbl⟩ := id C
  have hbA : ¬ AL s b := Nat.not_le.mpr hbl
  obtain ⟨hx, hb, hml, hown, hts⟩ := id S
  refine lv_aload_n hx hb dL_law_593 rfl (lv_at hl 3 rfl) ?_
  refine lv_aload_n hx hb dL_law_594 rfl (lv_at hl 4 rfl) ?_
  refine lv_iload hx hb dL_law_595 (lv_at hl 0 rfl) ?_
  refine lv_iconst (v := 1) hx hb dL_law_597 (by decide) ?_
  refine lv_iadd hx hb dL_law_598 ?_
  refine va_sld hx hb hsc hbl hbA hS (sc_in (k := 1) hI hLm (by decide)) dL_law_599 ?_
  refine lv_aload_n hx hb dL_law_600 rfl (lv_at hl 1 rfl) ?_
  obtain ⟨R9, σ', kk0, z', v, τ', n', T', mk', eX, eW, eM, hT', h', g', hkk, hz⟩ := sim_distance (z := z) hT h g (xs ((nI I) + 1).toNatClampNeg)
  refine r_wrap C hL hS (vx_runSX (As := [.ref (κ 0), .int (xs ((nI I) + 1).toNatClampNeg), .ref o]) (rest := []) S (lw_distance l hst D cI cII cJ κ hκ o ho σ (xs ((nI I) + 1).toNatClampNeg) z _ R9 σ' kk0 z' eX eW) (vx_cwSW 3 S.2.2.2.2 gL_law_L_distance rfl rfl rfl (by decide +kernel) ⟨Nat.le_of_ble_eq_true rfl, Nat.le_of_ble_eq_true rfl⟩) (r_preW C hL hS) rfl rfl hl.1 rfl (lv_room (Nat.le_of_ble_eq_true rfl)) dL_law_601 ⟨(show cells + 1 ≤ 601024 by omega), (show slots + 6 ≤ 7293034 by omega)⟩) (fun H locs hL hS => ?_)
  refine lv_istore (lv' := [(5, .int kk0), (4, .int (nI I)), (3, .ref o), (2, .ref (κm 0)), (1, .ref (κ 0)), (0, .ref b)]) hx hb dL_law_604 hl (by decide) rfl (fun ls hl => ?_)
  refine lv_aload_n hx hb dL_law_606 rfl (lv_at hl 3 rfl) ?_
  refine lv_aload_n hx hb dL_law_607 rfl (lv_at hl 5 rfl) ?_
  refine lv_iload hx hb dL_law_608 (lv_at hl 1 rfl) ?_
  refine lv_iconst (v := 1) hx hb dL_law_610 (by decide) ?_
  refine lv_iadd hx hb dL_law_611 ?_
  refine va_sld hx hb hsc hbl hbA hS (sc_in (k := 1) hI hLm (by decide)) dL_law_612 ?_
  refine r_modi C hL hS (va_runV (As := [.int (xs ((nI I) + 1).toNatClampNeg)]) (rest := []) S (met_X4_distance l D cI cII κm hm τ (xs ((nI I) + 1).toNatClampNeg) v τ' eM) (cwV 1 S.2.2.2.2 gL_law_X4_distance rfl rfl rfl (by decide +kernel) ⟨Nat.le_of_ble_eq_true rfl, Nat.le_of_ble_eq_true rfl⟩) (g_preV (N := 12) (T := TX4) hK hL.2.1 (Nat.le_refl _) (by decide) rfl rfl) rfl rfl hl.1 rfl (lv_room (Nat.le_of_ble_eq_true rfl)) dL_law_613 ⟨(show cells + 1 + 0 ≤ 601024 by omega), (show slots + 6 + 0 ≤ 7293034 by omega)⟩) (fun H locs hL hS => ?_)
  refine lv_istore (lv' := [(6, .int v), (5, .int kk0), (4, .int (nI I)), (3, .ref o), (2, .ref (κm 0)), (1, .ref (κ 0)), (0, .ref b)]) hx hb dL_law_616 hl (by decide) rfl (fun ls hl => ?_)
  refine lv_aload_n hx hb dL_law_618 rfl (lv_at hl 4 rfl) ?_
  refine r_modi C hL hS (va_runV (As := []) (rest := []) S (met_X4_thrown l D cI cII κm hm τ' kk0 (show fn_X4_thrown τ' = some kk0 from congrArg some hkk)) (cwV 0 S.2.2.2.2 gL_law_X4_thrown rfl rfl rfl (by decide +kernel) ⟨Nat.le_of_ble_eq_true rfl, Nat.le_of_ble_eq_true rfl⟩) (g_preV (N := 12) (T := TX4) hK hL.2.1 (Nat.le_refl _) (by decide) rfl rfl) rfl rfl hl.1 rfl (lv_room (Nat.le_of_ble_eq_true rfl)) dL_law_619 ⟨(show cells + 1 + 0 ≤ 601024 by omega), (show slots + 6 + 0 ≤ 7293034 by omega)⟩) (fun H locs hL hS => ?_)
  refine lv_iload hx hb dL_law_622 (lv_at hl 1 rfl) ?_
  refine lv_icmp_eq (tgt := 629) hx hb dL_law_624 (by decide) (fun _ => ?_) (fun hh => absurd rfl hh)
  refine lv_iload hx hb dL_law_629 (lv_at hl 1 rfl) ?_
  refine lv_if_ne (tgt := 646) hx hb dL_law_631 (by decide) (fun ck => ?_) (fun ck => ?_)
  · skip
    refine lv_goto (tgt := 1630) hx hb dL_law_646 (by decide) ?_
    refine W.widen (k := cells + 4) (n := slots + 32) (by omega) (by omega) ?_
    exact kk _ _ _ _ _ _ _ _ _ hT' h' g' hL hS (lv_sub hl [2, 3, 4, 5, 6] rfl)
  · have hz := hz ck
    refine lv_aload_n hx hb dL_law_634 rfl (lv_at hl 3 rfl) ?_
    refine lv_iconst (v := 0) hx hb dL_law_635 (by decide) ?_
    refine r_lald C hL dL_law_636 ?_
    refine lv_iload hx hb dL_law_637 (lv_at hl 0 rfl) ?_
    refine lv_i2l (v := v.toInt64) hx hb dL_law_639 rfl ?_
    rw [show z' = v.toInt64 from hz]
    refine lv_lcmp0 hx hb dL_law_640 ?_
    refine lv_if_eq (tgt := 646) hx hb dL_law_641 (by decide) (fun _ => ?_) (fun hh => absurd rfl hh)
    refine lv_goto (tgt := 1630) hx hb dL_law_646 (by decide) ?_
    refine W.widen (k := cells + 4) (n := slots + 32) (by omega) (by omega) ?_
    exact kk _ _ _ _ _ _ _ _ _ hT' h' g' hL hS (lv_sub hl [2, 3, 4, 5, 6] rfl)

set_option maxRecDepth 100000 in
set_option maxHeartbeats 4000000 in
theorem case_9 {p : Program} {l : Launch} {e : Env} {s : State} {m : MethodId} {args : Array Value} {below : List Frame} {meth : Method} {c : Code} {H : Heap} {locs : List Loc} {cells slots : Nat} {Q : State → Prop} {ls : Array Slot} {D : va_G} {κ κm : Nat → Nat} {cI cII cJ : ClassId} {o b L I n : Nat} {xs : Nat → Int32} {σ τ : SX} {z : Int64} {T : TT} {mk : Option Nat} (C : LawC p l s m args c D cI cII cJ κ κm o b L xs) (hI : I + 4 ≤ L) (hLm : L ≤ 2048) (hc : cells + 4 ≤ 601024) (hs : slots + 32 ≤ 7293034) (hT : Sys n T) (h : XI σ n T mk) (g : MI τ n T mk) (hL : LSt D cI cII cJ κ κm o σ τ z H) (hS : va_S (AL s) s.heap H locs) (hl : lv_has ls 9 [(4, .int (nI I)), (3, .ref o), (2, .ref (κm 0)), (1, .ref (κ 0)), (0, .ref b)])
    (kk : ∀ (σ τ : SX) (z : Int64) (n : Nat) (T : TT) (mk : Option Nat) (H : Heap) (locs : List Loc) (ls : Array Slot), Sys n T → XI σ n T mk → MI τ n T mk → LSt D cI cII cJ κ κm o σ τ z H → va_S (AL s) s.heap H locs → lv_has ls 9 [(4, .int (nI I)), (3, .ref o), (2, .ref (κm 0)), (1, .ref (κ 0)), (0, .ref b)] → W p l e room_1 s m args below meth c H locs (cells + 4) (slots + 32) Q (F0 m 1630 ls [])) :
    W p l e room_1 s m args below meth c H locs cells slots Q (F0 m 649 ls []) := by
  obtain ⟨S, hst, hK, hX, hZ, hJ, hN, hκ, hm, hA, hAm, hAo, hd, ho, hmo, hsc, hbl⟩ := id C
  have hbA : ¬ AL s b := Nat.not_le.mpr hbl
  obtain ⟨hx, hb, hml, hown, hts⟩ := id S
  refine lv_aload_n hx hb dL_law_649 rfl (lv_at hl 3 rfl) ?_
  refine lv_aload_n hx hb dL_law_650 rfl (lv_at hl 4 rfl) ?_
  refine lv_iload hx hb dL_law_651 (lv_at hl 0 rfl) ?_
  refine lv_iconst (v := 1) hx hb dL_law_653 (by decide) ?_
  refine lv_iadd hx hb dL_law_654 ?_
  refine va_sld hx hb hsc hbl hbA hS (sc_in (k := 1) hI hLm (by decide)) dL_law_655 ?_
  refine lv_aload_n hx hb dL_law_656 rfl (lv_at hl 4 rfl) ?_
  refine lv_iload hx hb dL_law_657 (lv_at hl 0 rfl) ?_
  refine lv_iconst (v := 2) hx hb dL_law_659 (by decide) ?_
  refine lv_iadd hx hb dL_law_660 ?_
  refine va_sld hx hb hsc hbl hbA hS (sc_in (k := 2) hI hLm (by decide)) dL_law_661 ?_
  refine lv_aload_n hx hb dL_law_662 rfl (lv_at hl 1 rfl) ?_
  obtain ⟨R9, σ', kk0, z', v, τ', n', T', mk', eX, eW, eM, hT', h', g', hkk, hz⟩ := sim_crossing (z := z) hT h g (xs ((nI I) + 1).toNatClampNeg) (xs ((nI I) + 2).toNatClampNeg)
  refine r_wrap C hL hS (vx_runSX (As := [.ref (κ 0), .int (xs ((nI I) + 1).toNatClampNeg), .int (xs ((nI I) + 2).toNatClampNeg), .ref o]) (rest := []) S (lw_crossing l hst D cI cII cJ κ hκ o ho σ (xs ((nI I) + 1).toNatClampNeg) (xs ((nI I) + 2).toNatClampNeg) z _ R9 σ' kk0 z' eX eW) (vx_cwSW 4 S.2.2.2.2 gL_law_L_crossing rfl rfl rfl (by decide +kernel) ⟨Nat.le_of_ble_eq_true rfl, Nat.le_of_ble_eq_true rfl⟩) (r_preW C hL hS) rfl rfl hl.1 rfl (lv_room (Nat.le_of_ble_eq_true rfl)) dL_law_663 ⟨(show cells + 2 ≤ 601024 by omega), (show slots + 12 ≤ 7293034 by omega)⟩) (fun H locs hL hS => ?_)
  refine lv_istore (lv' := [(5, .int kk0), (4, .int (nI I)), (3, .ref o), (2, .ref (κm 0)), (1, .ref (κ 0)), (0, .ref b)]) hx hb dL_law_666 hl (by decide) rfl (fun ls hl => ?_)
  refine lv_aload_n hx hb dL_law_668 rfl (lv_at hl 3 rfl) ?_
  refine lv_aload_n hx hb dL_law_669 rfl (lv_at hl 5 rfl) ?_
  refine lv_iload hx hb dL_law_670 (lv_at hl 1 rfl) ?_
  refine lv_iconst (v := 1) hx hb dL_law_672 (by decide) ?_
  refine lv_iadd hx hb dL_law_673 ?_
  refine va_sld hx hb hsc hbl hbA hS (sc_in (k := 1) hI hLm (by decide)) dL_law_674 ?_
  refine lv_aload_n hx hb dL_law_675 rfl (lv_at hl 5 rfl) ?_
  refine lv_iload hx hb dL_law_676 (lv_at hl 1 rfl) ?_
  refine lv_iconst (v := 2) hx hb dL_law_678 (by decide) ?_
  refine lv_iadd hx hb dL_law_679 ?_
  refine va_sld hx hb hsc hbl hbA hS (sc_in (k := 2) hI hLm (by decide)) dL_law_680 ?_
  refine r_modi C hL hS (va_runV (As := [.int (xs ((nI I) + 1).toNatClampNeg), .int (xs ((nI I) + 2).toNatClampNeg)]) (rest := []) S (met_X4_crossing l D cI cII κm hm τ (xs ((nI I) + 1).toNatClampNeg) (xs ((nI I) + 2).toNatClampNeg) v τ' eM) (cwV 2 S.2.2.2.2 gL_law_X4_crossing rfl rfl rfl (by decide +kernel) ⟨Nat.le_of_ble_eq_true rfl, Nat.le_of_ble_eq_true rfl⟩) (g_preV (N := 12) (T := TX4) hK hL.2.1 (Nat.le_refl _) (by decide) rfl rfl) rfl rfl hl.1 rfl (lv_room (Nat.le_of_ble_eq_true rfl)) dL_law_681 ⟨(show cells + 2 + 0 ≤ 601024 by omega), (show slots + 12 + 0 ≤ 7293034 by omega)⟩) (fun H locs hL hS => ?_)
  refine lv_istore (lv' := [(6, .int v), (5, .int kk0), (4, .int (nI I)), (3, .ref o), (2, .ref (κm 0)), (1, .ref (κ 0)), (0, .ref b)]) hx hb dL_law_684 hl (by decide) rfl (fun ls hl => ?_)
  refine lv_aload_n hx hb dL_law_686 rfl (lv_at hl 4 rfl) ?_
  refine r_modi C hL hS (va_runV (As := []) (rest := []) S (met_X4_thrown l D cI cII κm hm τ' kk0 (show fn_X4_thrown τ' = some kk0 from congrArg some hkk)) (cwV 0 S.2.2.2.2 gL_law_X4_thrown rfl rfl rfl (by decide +kernel) ⟨Nat.le_of_ble_eq_true rfl, Nat.le_of_ble_eq_true rfl⟩) (g_preV (N := 12) (T := TX4) hK hL.2.1 (Nat.le_refl _) (by decide) rfl rfl) rfl rfl hl.1 rfl (lv_room (Nat.le_of_ble_eq_true rfl)) dL_law_687 ⟨(show cells + 2 + 0 ≤ 601024 by omega), (show slots + 12 + 0 ≤ 7293034 by omega)⟩) (fun H locs hL hS => ?_)
  refine lv_iload hx hb dL_law_690 (lv_at hl 1 rfl) ?_
  refine lv_icmp_eq (tgt := 697) hx hb dL_law_692 (by decide) (fun _ => ?_) (fun hh => absurd rfl hh)
  refine lv_iload hx hb dL_law_697 (lv_at hl 1 rfl) ?_
  refine lv_if_ne (tgt := 714) hx hb dL_law_699 (by decide) (fun ck => ?_) (fun ck => ?_)
  · skip
    refine lv_goto (tgt := 1630) hx hb dL_law_714 (by decide) ?_
    refine W.widen (k := cells + 4) (n := slots + 32) (by omega) (by omega) ?_
    exact kk _ _ _ _ _ _ _ _ _ hT' h' g' hL hS (lv_sub hl [2, 3, 4, 5, 6] rfl)
  · have hz := hz ck
    refine lv_aload_n hx hb dL_law_702 rfl (lv_at hl 3 rfl) ?_
    refine lv_iconst (v := 0) hx hb dL_law_703 (by decide) ?_
    refine r_lald C hL dL_law_704 ?_
    refine lv_iload hx hb dL_law_705 (lv_at hl 0 rfl) ?_
    refine lv_i2l (v := v.toInt64) hx hb dL_law_707 rfl ?_
    rw [show z' = v.toInt64 from hz]
    refine lv_lcmp0 hx hb dL_law_708 ?_
    refine lv_if_eq (tgt := 714) hx hb dL_law_709 (by decide) (fun _ => ?_) (fun hh => absurd rfl hh)
    refine lv_goto (tgt := 1630) hx hb dL_law_714 (by decide) ?_
    refine W.widen (k := cells + 4) (n := slots + 32) (by omega) (by omega) ?_
    exact kk _ _ _ _ _ _ _ _ _ hT' h' g' hL hS (lv_sub hl [2, 3, 4, 5, 6] rfl)

set_option maxRecDepth 100000 in
set_option maxHeartbeats 4000000 in
theorem case_10 {p : Program} {l : Launch} {e : Env} {s : State} {m : MethodId} {args : Array Value} {below : List Frame} {meth : Method} {c : Code} {H : Heap} {locs : List Loc} {cells slots : Nat} {Q : State → Prop} {ls : Array Slot} {D : va_G} {κ κm : Nat → Nat} {cI cII cJ : ClassId} {o b L I n : Nat} {xs : Nat → Int32} {σ τ : SX} {z : Int64} {T : TT} {mk : Option Nat} (C : LawC p l s m args c D cI cII cJ κ κm o b L xs) (hI : I + 4 ≤ L) (hLm : L ≤ 2048) (hc : cells + 4 ≤ 601024) (hs : slots + 32 ≤ 7293034) (hT : Sys n T) (h : XI σ n T mk) (g : MI τ n T mk) (hL : LSt D cI cII cJ κ κm o σ τ z H) (hS : va_S (AL s) s.heap H locs) (hl : lv_has ls 9 [(4, .int (nI I)), (3, .ref o), (2, .ref (κm 0)), (1, .ref (κ 0)), (0, .ref b)])
    (kk : ∀ (σ τ : SX) (z : Int64) (n : Nat) (T : TT) (mk : Option Nat) (H : Heap) (locs : List Loc) (ls : Array Slot), Sys n T → XI σ n T mk → MI τ n T mk → LSt D cI cII cJ κ κm o σ τ z H → va_S (AL s) s.heap H locs → lv_has ls 9 [(4, .int (nI I)), (3, .ref o), (2, .ref (κm 0)), (1, .ref (κ 0)), (0, .ref b)] → W p l e room_1 s m args below meth c H locs (cells + 4) (slots + 32) Q (F0 m 1630 ls [])) :
    W p l e room_1 s m args below meth c H locs cells slots Q (F0 m 717 ls []) := by
  obtain ⟨S, hst, hK, hX, hZ, hJ, hN, hκ, hm, hA, hAm, hAo, hd, ho, hmo, hsc, hbl⟩ := id C
  have hbA : ¬ AL s b := Nat.not_le.mpr hbl
  obtain ⟨hx, hb, hml, hown, hts⟩ := id S
  refine lv_aload_n hx hb dL_law_717 rfl (lv_at hl 3 rfl) ?_
  refine lv_aload_n hx hb dL_law_718 rfl (lv_at hl 4 rfl) ?_
  refine lv_iload hx hb dL_law_719 (lv_at hl 0 rfl) ?_
  refine lv_iconst (v := 1) hx hb dL_law_721 (by decide) ?_
  refine lv_iadd hx hb dL_law_722 ?_
  refine va_sld hx hb hsc hbl hbA hS (sc_in (k := 1) hI hLm (by decide)) dL_law_723 ?_
  refine lv_aload_n hx hb dL_law_724 rfl (lv_at hl 1 rfl) ?_
  obtain ⟨R9, σ', kk0, z', v, τ', n', T', mk', eX, eW, eM, hT', h', g', hkk, hz⟩ := sim_isRegion (z := z) hT h g (xs ((nI I) + 1).toNatClampNeg)
  refine r_wrap C hL hS (vx_runSX (As := [.ref (κ 0), .int (xs ((nI I) + 1).toNatClampNeg), .ref o]) (rest := []) S (lw_isRegion l hst D cI cII cJ κ hκ o ho σ (xs ((nI I) + 1).toNatClampNeg) z _ R9 σ' kk0 z' eX eW) (vx_cwSW 3 S.2.2.2.2 gL_law_L_isRegion rfl rfl rfl (by decide +kernel) ⟨Nat.le_of_ble_eq_true rfl, Nat.le_of_ble_eq_true rfl⟩) (r_preW C hL hS) rfl rfl hl.1 rfl (lv_room (Nat.le_of_ble_eq_true rfl)) dL_law_725 ⟨(show cells + 1 ≤ 601024 by omega), (show slots + 6 ≤ 7293034 by omega)⟩) (fun H locs hL hS => ?_)
  refine lv_istore (lv' := [(5, .int kk0), (4, .int (nI I)), (3, .ref o), (2, .ref (κm 0)), (1, .ref (κ 0)), (0, .ref b)]) hx hb dL_law_728 hl (by decide) rfl (fun ls hl => ?_)
  refine lv_aload_n hx hb dL_law_730 rfl (lv_at hl 3 rfl) ?_
  refine lv_aload_n hx hb dL_law_731 rfl (lv_at hl 5 rfl) ?_
  refine lv_iload hx hb dL_law_732 (lv_at hl 1 rfl) ?_
  refine lv_iconst (v := 1) hx hb dL_law_734 (by decide) ?_
  refine lv_iadd hx hb dL_law_735 ?_
  refine va_sld hx hb hsc hbl hbA hS (sc_in (k := 1) hI hLm (by decide)) dL_law_736 ?_
  refine r_modi C hL hS (va_runV (As := [.int (xs ((nI I) + 1).toNatClampNeg)]) (rest := []) S (met_X4_isRegion l D cI cII κm hm τ (xs ((nI I) + 1).toNatClampNeg) v τ' eM) (cwV 1 S.2.2.2.2 gL_law_X4_isRegion rfl rfl rfl (by decide +kernel) ⟨Nat.le_of_ble_eq_true rfl, Nat.le_of_ble_eq_true rfl⟩) (g_preV (N := 12) (T := TX4) hK hL.2.1 (Nat.le_refl _) (by decide) rfl rfl) rfl rfl hl.1 rfl (lv_room (Nat.le_of_ble_eq_true rfl)) dL_law_737 ⟨(show cells + 1 + 0 ≤ 601024 by omega), (show slots + 6 + 0 ≤ 7293034 by omega)⟩) (fun H locs hL hS => ?_)
  refine lv_istore (lv' := [(6, .int v), (5, .int kk0), (4, .int (nI I)), (3, .ref o), (2, .ref (κm 0)), (1, .ref (κ 0)), (0, .ref b)]) hx hb dL_law_740 hl (by decide) rfl (fun ls hl => ?_)
  refine lv_aload_n hx hb dL_law_742 rfl (lv_at hl 4 rfl) ?_
  refine r_modi C hL hS (va_runV (As := []) (rest := []) S (met_X4_thrown l D cI cII κm hm τ' kk0 (show fn_X4_thrown τ' = some kk0 from congrArg some hkk)) (cwV 0 S.2.2.2.2 gL_law_X4_thrown rfl rfl rfl (by decide +kernel) ⟨Nat.le_of_ble_eq_true rfl, Nat.le_of_ble_eq_true rfl⟩) (g_preV (N := 12) (T := TX4) hK hL.2.1 (Nat.le_refl _) (by decide) rfl rfl) rfl rfl hl.1 rfl (lv_room (Nat.le_of_ble_eq_true rfl)) dL_law_743 ⟨(show cells + 1 + 0 ≤ 601024 by omega), (show slots + 6 + 0 ≤ 7293034 by omega)⟩) (fun H locs hL hS => ?_)
  refine lv_iload hx hb dL_law_746 (lv_at hl 1 rfl) ?_
  refine lv_icmp_eq (tgt := 753) hx hb dL_law_748 (by decide) (fun _ => ?_) (fun hh => absurd rfl hh)
  refine lv_iload hx hb dL_law_753 (lv_at hl 1 rfl) ?_
  refine lv_if_ne (tgt := 777) hx hb dL_law_755 (by decide) (fun ck => ?_) (fun ck => ?_)
  · skip
    refine lv_goto (tgt := 1630) hx hb dL_law_777 (by decide) ?_
    refine W.widen (k := cells + 4) (n := slots + 32) (by omega) (by omega) ?_
    exact kk _ _ _ _ _ _ _ _ _ hT' h' g' hL hS (lv_sub hl [2, 3, 4, 5, 6] rfl)
  · have hz := hz ck
    refine lv_aload_n hx hb dL_law_758 rfl (lv_at hl 3 rfl) ?_
    refine lv_iconst (v := 0) hx hb dL_law_759 (by decide) ?_
    refine r_lald C hL dL_law_760 ?_
    refine lv_iload hx hb dL_law_761 (lv_at hl 0 rfl) ?_
    refine lv_if_eq (tgt := 770) hx hb dL_law_763 (by decide) (fun cv => ?_) (fun cv => ?_)
    · have hz : z' = 0 := hz.trans (if_pos cv)
      refine lv_lconst (v := 0) hx hb dL_law_770 rfl ?_
      rw [show z' = 0 from hz]
      refine lv_lcmp0 hx hb dL_law_771 ?_
      refine lv_if_eq (tgt := 777) hx hb dL_law_772 (by decide) (fun _ => ?_) (fun hh => absurd rfl hh)
      refine lv_goto (tgt := 1630) hx hb dL_law_777 (by decide) ?_
      refine W.widen (k := cells + 4) (n := slots + 32) (by omega) (by omega) ?_
      exact kk _ _ _ _ _ _ _ _ _ hT' h' g' hL hS (lv_sub hl [2, 3, 4, 5, 6] rfl)
    · have hz : z' = 1 := hz.trans (if_neg cv)
      refine lv_lconst (v := 1) hx hb dL_law_766 rfl ?_
      refine lv_goto (tgt := 771) hx hb dL_law_767 (by decide) ?_
      rw [show z' = 1 from hz]
      refine lv_lcmp0 hx hb dL_law_771 ?_
      refine lv_if_eq (tgt := 777) hx hb dL_law_772 (by decide) (fun _ => ?_) (fun hh => absurd rfl hh)
      refine lv_goto (tgt := 1630) hx hb dL_law_777 (by decide) ?_
      refine W.widen (k := cells + 4) (n := slots + 32) (by omega) (by omega) ?_
      exact kk _ _ _ _ _ _ _ _ _ hT' h' g' hL hS (lv_sub hl [2, 3, 4, 5, 6] rfl)

set_option maxRecDepth 100000 in
set_option maxHeartbeats 4000000 in
theorem case_11 {p : Program} {l : Launch} {e : Env} {s : State} {m : MethodId} {args : Array Value} {below : List Frame} {meth : Method} {c : Code} {H : Heap} {locs : List Loc} {cells slots : Nat} {Q : State → Prop} {ls : Array Slot} {D : va_G} {κ κm : Nat → Nat} {cI cII cJ : ClassId} {o b L I n : Nat} {xs : Nat → Int32} {σ τ : SX} {z : Int64} {T : TT} {mk : Option Nat} (C : LawC p l s m args c D cI cII cJ κ κm o b L xs) (hI : I + 4 ≤ L) (hLm : L ≤ 2048) (hc : cells + 4 ≤ 601024) (hs : slots + 32 ≤ 7293034) (hT : Sys n T) (h : XI σ n T mk) (g : MI τ n T mk) (hL : LSt D cI cII cJ κ κm o σ τ z H) (hS : va_S (AL s) s.heap H locs) (hl : lv_has ls 9 [(4, .int (nI I)), (3, .ref o), (2, .ref (κm 0)), (1, .ref (κ 0)), (0, .ref b)])
    (kk : ∀ (σ τ : SX) (z : Int64) (n : Nat) (T : TT) (mk : Option Nat) (H : Heap) (locs : List Loc) (ls : Array Slot), Sys n T → XI σ n T mk → MI τ n T mk → LSt D cI cII cJ κ κm o σ τ z H → va_S (AL s) s.heap H locs → lv_has ls 9 [(4, .int (nI I)), (3, .ref o), (2, .ref (κm 0)), (1, .ref (κ 0)), (0, .ref b)] → W p l e room_1 s m args below meth c H locs (cells + 4) (slots + 32) Q (F0 m 1630 ls [])) :
    W p l e room_1 s m args below meth c H locs cells slots Q (F0 m 780 ls []) := by
  obtain ⟨S, hst, hK, hX, hZ, hJ, hN, hκ, hm, hA, hAm, hAo, hd, ho, hmo, hsc, hbl⟩ := id C
  have hbA : ¬ AL s b := Nat.not_le.mpr hbl
  obtain ⟨hx, hb, hml, hown, hts⟩ := id S
  refine lv_aload_n hx hb dL_law_780 rfl (lv_at hl 3 rfl) ?_
  obtain ⟨v, σ', τ', eX, eM, h', g'⟩ := sim_regionCount hT h g
  refine r_clsi C hL hS (va_runV (As := []) (rest := []) S (met_X3_regionCount l D cI cII κ hκ σ v σ' eX) (cwV 0 S.2.2.2.2 gL_law_X3_regionCount rfl rfl rfl (by decide +kernel) ⟨Nat.le_of_ble_eq_true rfl, Nat.le_of_ble_eq_true rfl⟩) (g_preV (N := 3) (T := TX3) hK hL.1 (Nat.le_refl _) (by decide) rfl rfl) rfl rfl hl.1 rfl (lv_room (Nat.le_of_ble_eq_true rfl)) dL_law_781 ⟨(show cells + 0 ≤ 601024 by omega), (show slots + 0 ≤ 7293034 by omega)⟩) (fun H locs hL hS => ?_)
  refine lv_aload_n hx hb dL_law_784 rfl (lv_at hl 2 rfl) ?_
  refine r_modi C hL hS (va_runV (As := []) (rest := [.int v]) S (met_X4_regionCount l D cI cII κm hm τ v τ' eM) (cwV 0 S.2.2.2.2 gL_law_X4_regionCount rfl rfl rfl (by decide +kernel) ⟨Nat.le_of_ble_eq_true rfl, Nat.le_of_ble_eq_true rfl⟩) (g_preV (N := 12) (T := TX4) hK hL.2.1 (Nat.le_refl _) (by decide) rfl rfl) rfl rfl hl.1 rfl (lv_room (Nat.le_of_ble_eq_true rfl)) dL_law_785 ⟨(show cells + 0 ≤ 601024 by omega), (show slots + 0 ≤ 7293034 by omega)⟩) (fun H locs hL hS => ?_)
  refine lv_icmp_eq (tgt := 1630) hx hb dL_law_788 (by decide) (fun _ => ?_) (fun hh => absurd rfl hh)
  refine W.widen (k := cells + 4) (n := slots + 32) (by omega) (by omega) ?_
  exact kk _ _ _ _ _ _ _ _ _ hT h' g' hL hS (lv_sub hl [0, 1, 2, 3, 4] rfl)

set_option maxRecDepth 100000 in
set_option maxHeartbeats 4000000 in
theorem case_12 {p : Program} {l : Launch} {e : Env} {s : State} {m : MethodId} {args : Array Value} {below : List Frame} {meth : Method} {c : Code} {H : Heap} {locs : List Loc} {cells slots : Nat} {Q : State → Prop} {ls : Array Slot} {D : va_G} {κ κm : Nat → Nat} {cI cII cJ : ClassId} {o b L I n : Nat} {xs : Nat → Int32} {σ τ : SX} {z : Int64} {T : TT} {mk : Option Nat} (C : LawC p l s m args c D cI cII cJ κ κm o b L xs) (hI : I + 4 ≤ L) (hLm : L ≤ 2048) (hc : cells + 4 ≤ 601024) (hs : slots + 32 ≤ 7293034) (hT : Sys n T) (h : XI σ n T mk) (g : MI τ n T mk) (hL : LSt D cI cII cJ κ κm o σ τ z H) (hS : va_S (AL s) s.heap H locs) (hl : lv_has ls 9 [(4, .int (nI I)), (3, .ref o), (2, .ref (κm 0)), (1, .ref (κ 0)), (0, .ref b)])
    (kk : ∀ (σ τ : SX) (z : Int64) (n : Nat) (T : TT) (mk : Option Nat) (H : Heap) (locs : List Loc) (ls : Array Slot), Sys n T → XI σ n T mk → MI τ n T mk → LSt D cI cII cJ κ κm o σ τ z H → va_S (AL s) s.heap H locs → lv_has ls 9 [(4, .int (nI I)), (3, .ref o), (2, .ref (κm 0)), (1, .ref (κ 0)), (0, .ref b)] → W p l e room_1 s m args below meth c H locs (cells + 4) (slots + 32) Q (F0 m 1630 ls [])) :
    W p l e room_1 s m args below meth c H locs cells slots Q (F0 m 793 ls []) := by
  obtain ⟨S, hst, hK, hX, hZ, hJ, hN, hκ, hm, hA, hAm, hAo, hd, ho, hmo, hsc, hbl⟩ := id C
  have hbA : ¬ AL s b := Nat.not_le.mpr hbl
  obtain ⟨hx, hb, hml, hown, hts⟩ := id S
  refine lv_aload_n hx hb dL_law_793 rfl (lv_at hl 3 rfl) ?_
  refine lv_aload_n hx hb dL_law_794 rfl (lv_at hl 4 rfl) ?_
  refine lv_iload hx hb dL_law_795 (lv_at hl 0 rfl) ?_
  refine lv_iconst (v := 1) hx hb dL_law_797 (by decide) ?_
  refine lv_iadd hx hb dL_law_798 ?_
  refine va_sld hx hb hsc hbl hbA hS (sc_in (k := 1) hI hLm (by decide)) dL_law_799 ?_
  refine lv_aload_n hx hb dL_law_800 rfl (lv_at hl 1 rfl) ?_
  obtain ⟨R9, σ', kk0, z', v, τ', n', T', mk', eX, eW, eM, hT', h', g', hkk, hz⟩ := sim_region (z := z) hT h g (xs ((nI I) + 1).toNatClampNeg)
  refine r_wrap C hL hS (vx_runSX (As := [.ref (κ 0), .int (xs ((nI I) + 1).toNatClampNeg), .ref o]) (rest := []) S (lw_region l hst D cI cII cJ κ hκ o ho σ (xs ((nI I) + 1).toNatClampNeg) z _ R9 σ' kk0 z' eX eW) (vx_cwSW 3 S.2.2.2.2 gL_law_L_region rfl rfl rfl (by decide +kernel) ⟨Nat.le_of_ble_eq_true rfl, Nat.le_of_ble_eq_true rfl⟩) (r_preW C hL hS) rfl rfl hl.1 rfl (lv_room (Nat.le_of_ble_eq_true rfl)) dL_law_801 ⟨(show cells + 1 ≤ 601024 by omega), (show slots + 6 ≤ 7293034 by omega)⟩) (fun H locs hL hS => ?_)
  refine lv_istore (lv' := [(5, .int kk0), (4, .int (nI I)), (3, .ref o), (2, .ref (κm 0)), (1, .ref (κ 0)), (0, .ref b)]) hx hb dL_law_804 hl (by decide) rfl (fun ls hl => ?_)
  refine lv_aload_n hx hb dL_law_806 rfl (lv_at hl 3 rfl) ?_
  refine lv_aload_n hx hb dL_law_807 rfl (lv_at hl 5 rfl) ?_
  refine lv_iload hx hb dL_law_808 (lv_at hl 1 rfl) ?_
  refine lv_iconst (v := 1) hx hb dL_law_810 (by decide) ?_
  refine lv_iadd hx hb dL_law_811 ?_
  refine va_sld hx hb hsc hbl hbA hS (sc_in (k := 1) hI hLm (by decide)) dL_law_812 ?_
  refine r_modi C hL hS (va_runV (As := [.int (xs ((nI I) + 1).toNatClampNeg)]) (rest := []) S (met_X4_region l D cI cII κm hm τ (xs ((nI I) + 1).toNatClampNeg) v τ' eM) (cwV 1 S.2.2.2.2 gL_law_X4_region rfl rfl rfl (by decide +kernel) ⟨Nat.le_of_ble_eq_true rfl, Nat.le_of_ble_eq_true rfl⟩) (g_preV (N := 12) (T := TX4) hK hL.2.1 (Nat.le_refl _) (by decide) rfl rfl) rfl rfl hl.1 rfl (lv_room (Nat.le_of_ble_eq_true rfl)) dL_law_813 ⟨(show cells + 1 + 0 ≤ 601024 by omega), (show slots + 6 + 0 ≤ 7293034 by omega)⟩) (fun H locs hL hS => ?_)
  refine lv_istore (lv' := [(6, .int v), (5, .int kk0), (4, .int (nI I)), (3, .ref o), (2, .ref (κm 0)), (1, .ref (κ 0)), (0, .ref b)]) hx hb dL_law_816 hl (by decide) rfl (fun ls hl => ?_)
  refine lv_aload_n hx hb dL_law_818 rfl (lv_at hl 4 rfl) ?_
  refine r_modi C hL hS (va_runV (As := []) (rest := []) S (met_X4_thrown l D cI cII κm hm τ' kk0 (show fn_X4_thrown τ' = some kk0 from congrArg some hkk)) (cwV 0 S.2.2.2.2 gL_law_X4_thrown rfl rfl rfl (by decide +kernel) ⟨Nat.le_of_ble_eq_true rfl, Nat.le_of_ble_eq_true rfl⟩) (g_preV (N := 12) (T := TX4) hK hL.2.1 (Nat.le_refl _) (by decide) rfl rfl) rfl rfl hl.1 rfl (lv_room (Nat.le_of_ble_eq_true rfl)) dL_law_819 ⟨(show cells + 1 + 0 ≤ 601024 by omega), (show slots + 6 + 0 ≤ 7293034 by omega)⟩) (fun H locs hL hS => ?_)
  refine lv_iload hx hb dL_law_822 (lv_at hl 1 rfl) ?_
  refine lv_icmp_eq (tgt := 829) hx hb dL_law_824 (by decide) (fun _ => ?_) (fun hh => absurd rfl hh)
  refine lv_iload hx hb dL_law_829 (lv_at hl 1 rfl) ?_
  refine lv_if_ne (tgt := 846) hx hb dL_law_831 (by decide) (fun ck => ?_) (fun ck => ?_)
  · skip
    refine lv_goto (tgt := 1630) hx hb dL_law_846 (by decide) ?_
    refine W.widen (k := cells + 4) (n := slots + 32) (by omega) (by omega) ?_
    exact kk _ _ _ _ _ _ _ _ _ hT' h' g' hL hS (lv_sub hl [2, 3, 4, 5, 6] rfl)
  · have hz := hz ck
    refine lv_aload_n hx hb dL_law_834 rfl (lv_at hl 3 rfl) ?_
    refine lv_iconst (v := 0) hx hb dL_law_835 (by decide) ?_
    refine r_lald C hL dL_law_836 ?_
    refine lv_iload hx hb dL_law_837 (lv_at hl 0 rfl) ?_
    refine lv_i2l (v := v.toInt64) hx hb dL_law_839 rfl ?_
    rw [show z' = v.toInt64 from hz]
    refine lv_lcmp0 hx hb dL_law_840 ?_
    refine lv_if_eq (tgt := 846) hx hb dL_law_841 (by decide) (fun _ => ?_) (fun hh => absurd rfl hh)
    refine lv_goto (tgt := 1630) hx hb dL_law_846 (by decide) ?_
    refine W.widen (k := cells + 4) (n := slots + 32) (by omega) (by omega) ?_
    exact kk _ _ _ _ _ _ _ _ _ hT' h' g' hL hS (lv_sub hl [2, 3, 4, 5, 6] rfl)

set_option maxRecDepth 100000 in
set_option maxHeartbeats 4000000 in
theorem case_13 {p : Program} {l : Launch} {e : Env} {s : State} {m : MethodId} {args : Array Value} {below : List Frame} {meth : Method} {c : Code} {H : Heap} {locs : List Loc} {cells slots : Nat} {Q : State → Prop} {ls : Array Slot} {D : va_G} {κ κm : Nat → Nat} {cI cII cJ : ClassId} {o b L I n : Nat} {xs : Nat → Int32} {σ τ : SX} {z : Int64} {T : TT} {mk : Option Nat} (C : LawC p l s m args c D cI cII cJ κ κm o b L xs) (hI : I + 4 ≤ L) (hLm : L ≤ 2048) (hc : cells + 4 ≤ 601024) (hs : slots + 32 ≤ 7293034) (hT : Sys n T) (h : XI σ n T mk) (g : MI τ n T mk) (hL : LSt D cI cII cJ κ κm o σ τ z H) (hS : va_S (AL s) s.heap H locs) (hl : lv_has ls 9 [(4, .int (nI I)), (3, .ref o), (2, .ref (κm 0)), (1, .ref (κ 0)), (0, .ref b)])
    (kk : ∀ (σ τ : SX) (z : Int64) (n : Nat) (T : TT) (mk : Option Nat) (H : Heap) (locs : List Loc) (ls : Array Slot), Sys n T → XI σ n T mk → MI τ n T mk → LSt D cI cII cJ κ κm o σ τ z H → va_S (AL s) s.heap H locs → lv_has ls 9 [(4, .int (nI I)), (3, .ref o), (2, .ref (κm 0)), (1, .ref (κ 0)), (0, .ref b)] → W p l e room_1 s m args below meth c H locs (cells + 4) (slots + 32) Q (F0 m 1630 ls [])) :
    W p l e room_1 s m args below meth c H locs cells slots Q (F0 m 849 ls []) := by
  obtain ⟨S, hst, hK, hX, hZ, hJ, hN, hκ, hm, hA, hAm, hAo, hd, ho, hmo, hsc, hbl⟩ := id C
  have hbA : ¬ AL s b := Nat.not_le.mpr hbl
  obtain ⟨hx, hb, hml, hown, hts⟩ := id S
  refine lv_aload_n hx hb dL_law_849 rfl (lv_at hl 3 rfl) ?_
  refine lv_aload_n hx hb dL_law_850 rfl (lv_at hl 4 rfl) ?_
  refine lv_iload hx hb dL_law_851 (lv_at hl 0 rfl) ?_
  refine lv_iconst (v := 1) hx hb dL_law_853 (by decide) ?_
  refine lv_iadd hx hb dL_law_854 ?_
  refine va_sld hx hb hsc hbl hbA hS (sc_in (k := 1) hI hLm (by decide)) dL_law_855 ?_
  refine lv_aload_n hx hb dL_law_856 rfl (lv_at hl 1 rfl) ?_
  obtain ⟨R9, σ', kk0, z', v, τ', n', T', mk', eX, eW, eM, hT', h', g', hkk, hz⟩ := sim_isLeast (z := z) hT h g (xs ((nI I) + 1).toNatClampNeg)
  refine r_wrap C hL hS (vx_runSX (As := [.ref (κ 0), .int (xs ((nI I) + 1).toNatClampNeg), .ref o]) (rest := []) S (lw_isLeast l hst D cI cII cJ κ hκ o ho σ (xs ((nI I) + 1).toNatClampNeg) z _ R9 σ' kk0 z' eX eW) (vx_cwSW 3 S.2.2.2.2 gL_law_L_isLeast rfl rfl rfl (by decide +kernel) ⟨Nat.le_of_ble_eq_true rfl, Nat.le_of_ble_eq_true rfl⟩) (r_preW C hL hS) rfl rfl hl.1 rfl (lv_room (Nat.le_of_ble_eq_true rfl)) dL_law_857 ⟨(show cells + 1 ≤ 601024 by omega), (show slots + 6 ≤ 7293034 by omega)⟩) (fun H locs hL hS => ?_)
  refine lv_istore (lv' := [(5, .int kk0), (4, .int (nI I)), (3, .ref o), (2, .ref (κm 0)), (1, .ref (κ 0)), (0, .ref b)]) hx hb dL_law_860 hl (by decide) rfl (fun ls hl => ?_)
  refine lv_aload_n hx hb dL_law_862 rfl (lv_at hl 3 rfl) ?_
  refine lv_aload_n hx hb dL_law_863 rfl (lv_at hl 5 rfl) ?_
  refine lv_iload hx hb dL_law_864 (lv_at hl 1 rfl) ?_
  refine lv_iconst (v := 1) hx hb dL_law_866 (by decide) ?_
  refine lv_iadd hx hb dL_law_867 ?_
  refine va_sld hx hb hsc hbl hbA hS (sc_in (k := 1) hI hLm (by decide)) dL_law_868 ?_
  refine r_modi C hL hS (va_runV (As := [.int (xs ((nI I) + 1).toNatClampNeg)]) (rest := []) S (met_X4_isLeast l D cI cII κm hm τ (xs ((nI I) + 1).toNatClampNeg) v τ' eM) (cwV 1 S.2.2.2.2 gL_law_X4_isLeast rfl rfl rfl (by decide +kernel) ⟨Nat.le_of_ble_eq_true rfl, Nat.le_of_ble_eq_true rfl⟩) (g_preV (N := 12) (T := TX4) hK hL.2.1 (Nat.le_refl _) (by decide) rfl rfl) rfl rfl hl.1 rfl (lv_room (Nat.le_of_ble_eq_true rfl)) dL_law_869 ⟨(show cells + 1 + 0 ≤ 601024 by omega), (show slots + 6 + 0 ≤ 7293034 by omega)⟩) (fun H locs hL hS => ?_)
  refine lv_istore (lv' := [(6, .int v), (5, .int kk0), (4, .int (nI I)), (3, .ref o), (2, .ref (κm 0)), (1, .ref (κ 0)), (0, .ref b)]) hx hb dL_law_872 hl (by decide) rfl (fun ls hl => ?_)
  refine lv_aload_n hx hb dL_law_874 rfl (lv_at hl 4 rfl) ?_
  refine r_modi C hL hS (va_runV (As := []) (rest := []) S (met_X4_thrown l D cI cII κm hm τ' kk0 (show fn_X4_thrown τ' = some kk0 from congrArg some hkk)) (cwV 0 S.2.2.2.2 gL_law_X4_thrown rfl rfl rfl (by decide +kernel) ⟨Nat.le_of_ble_eq_true rfl, Nat.le_of_ble_eq_true rfl⟩) (g_preV (N := 12) (T := TX4) hK hL.2.1 (Nat.le_refl _) (by decide) rfl rfl) rfl rfl hl.1 rfl (lv_room (Nat.le_of_ble_eq_true rfl)) dL_law_875 ⟨(show cells + 1 + 0 ≤ 601024 by omega), (show slots + 6 + 0 ≤ 7293034 by omega)⟩) (fun H locs hL hS => ?_)
  refine lv_iload hx hb dL_law_878 (lv_at hl 1 rfl) ?_
  refine lv_icmp_eq (tgt := 885) hx hb dL_law_880 (by decide) (fun _ => ?_) (fun hh => absurd rfl hh)
  refine lv_iload hx hb dL_law_885 (lv_at hl 1 rfl) ?_
  refine lv_if_ne (tgt := 909) hx hb dL_law_887 (by decide) (fun ck => ?_) (fun ck => ?_)
  · skip
    refine lv_goto (tgt := 1630) hx hb dL_law_909 (by decide) ?_
    refine W.widen (k := cells + 4) (n := slots + 32) (by omega) (by omega) ?_
    exact kk _ _ _ _ _ _ _ _ _ hT' h' g' hL hS (lv_sub hl [2, 3, 4, 5, 6] rfl)
  · have hz := hz ck
    refine lv_aload_n hx hb dL_law_890 rfl (lv_at hl 3 rfl) ?_
    refine lv_iconst (v := 0) hx hb dL_law_891 (by decide) ?_
    refine r_lald C hL dL_law_892 ?_
    refine lv_iload hx hb dL_law_893 (lv_at hl 0 rfl) ?_
    refine lv_if_eq (tgt := 902) hx hb dL_law_895 (by decide) (fun cv => ?_) (fun cv => ?_)
    · have hz : z' = 0 := hz.trans (if_pos cv)
      refine lv_lconst (v := 0) hx hb dL_law_902 rfl ?_
      rw [show z' = 0 from hz]
      refine lv_lcmp0 hx hb dL_law_903 ?_
      refine lv_if_eq (tgt := 909) hx hb dL_law_904 (by decide) (fun _ => ?_) (fun hh => absurd rfl hh)
      refine lv_goto (tgt := 1630) hx hb dL_law_909 (by decide) ?_
      refine W.widen (k := cells + 4) (n := slots + 32) (by omega) (by omega) ?_
      exact kk _ _ _ _ _ _ _ _ _ hT' h' g' hL hS (lv_sub hl [2, 3, 4, 5, 6] rfl)
    · have hz : z' = 1 := hz.trans (if_neg cv)
      refine lv_lconst (v := 1) hx hb dL_law_898 rfl ?_
      refine lv_goto (tgt := 903) hx hb dL_law_899 (by decide) ?_
      rw [show z' = 1 from hz]
      refine lv_lcmp0 hx hb dL_law_903 ?_
      refine lv_if_eq (tgt := 909) hx hb dL_law_904 (by decide) (fun _ => ?_) (fun hh => absurd rfl hh)
      refine lv_goto (tgt := 1630) hx hb dL_law_909 (by decide) ?_
      refine W.widen (k := cells + 4) (n := slots + 32) (by omega) (by omega) ?_
      exact kk _ _ _ _ _ _ _ _ _ hT' h' g' hL hS (lv_sub hl [2, 3, 4, 5, 6] rfl)

set_option maxRecDepth 100000 in
set_option maxHeartbeats 4000000 in
theorem case_14 {p : Program} {l : Launch} {e : Env} {s : State} {m : MethodId} {args : Array Value} {below : List Frame} {meth : Method} {c : Code} {H : Heap} {locs : List Loc} {cells slots : Nat} {Q : State → Prop} {ls : Array Slot} {D : va_G} {κ κm : Nat → Nat} {cI cII cJ : ClassId} {o b L I n : Nat} {xs : Nat → Int32} {σ τ : SX} {z : Int64} {T : TT} {mk : Option Nat} (C : LawC p l s m args c D cI cII cJ κ κm o b L xs) (hI : I + 4 ≤ L) (hLm : L ≤ 2048) (hc : cells + 4 ≤ 601024) (hs : slots + 32 ≤ 7293034) (hT : Sys n T) (h : XI σ n T mk) (g : MI τ n T mk) (hL : LSt D cI cII cJ κ κm o σ τ z H) (hS : va_S (AL s) s.heap H locs) (hl : lv_has ls 9 [(4, .int (nI I)), (3, .ref o), (2, .ref (κm 0)), (1, .ref (κ 0)), (0, .ref b)])
    (kk : ∀ (σ τ : SX) (z : Int64) (n : Nat) (T : TT) (mk : Option Nat) (H : Heap) (locs : List Loc) (ls : Array Slot), Sys n T → XI σ n T mk → MI τ n T mk → LSt D cI cII cJ κ κm o σ τ z H → va_S (AL s) s.heap H locs → lv_has ls 9 [(4, .int (nI I)), (3, .ref o), (2, .ref (κm 0)), (1, .ref (κ 0)), (0, .ref b)] → W p l e room_1 s m args below meth c H locs (cells + 4) (slots + 32) Q (F0 m 1630 ls [])) :
    W p l e room_1 s m args below meth c H locs cells slots Q (F0 m 912 ls []) := by
  obtain ⟨S, hst, hK, hX, hZ, hJ, hN, hκ, hm, hA, hAm, hAo, hd, ho, hmo, hsc, hbl⟩ := id C
  have hbA : ¬ AL s b := Nat.not_le.mpr hbl
  obtain ⟨hx, hb, hml, hown, hts⟩ := id S
  refine lv_aload_n hx hb dL_law_912 rfl (lv_at hl 3 rfl) ?_
  refine lv_aload_n hx hb dL_law_913 rfl (lv_at hl 4 rfl) ?_
  refine lv_iload hx hb dL_law_914 (lv_at hl 0 rfl) ?_
  refine lv_iconst (v := 1) hx hb dL_law_916 (by decide) ?_
  refine lv_iadd hx hb dL_law_917 ?_
  refine va_sld hx hb hsc hbl hbA hS (sc_in (k := 1) hI hLm (by decide)) dL_law_918 ?_
  refine lv_aload_n hx hb dL_law_919 rfl (lv_at hl 1 rfl) ?_
  obtain ⟨R9, σ', kk0, z', v, τ', n', T', mk', eX, eW, eM, hT', h', g', hkk, hz⟩ := sim_grow (z := z) hT h g (xs ((nI I) + 1).toNatClampNeg)
  refine r_wrap C hL hS (vx_runSX (As := [.ref (κ 0), .int (xs ((nI I) + 1).toNatClampNeg), .ref o]) (rest := []) S (lw_grow l hst D cI cII cJ κ hκ o ho σ (xs ((nI I) + 1).toNatClampNeg) z _ R9 σ' kk0 z' eX eW) (vx_cwSW 3 S.2.2.2.2 gL_law_L_grow rfl rfl rfl (by decide +kernel) ⟨Nat.le_of_ble_eq_true rfl, Nat.le_of_ble_eq_true rfl⟩) (r_preW C hL hS) rfl rfl hl.1 rfl (lv_room (Nat.le_of_ble_eq_true rfl)) dL_law_920 ⟨(show cells + 1 ≤ 601024 by omega), (show slots + 6 ≤ 7293034 by omega)⟩) (fun H locs hL hS => ?_)
  refine lv_istore (lv' := [(5, .int kk0), (4, .int (nI I)), (3, .ref o), (2, .ref (κm 0)), (1, .ref (κ 0)), (0, .ref b)]) hx hb dL_law_923 hl (by decide) rfl (fun ls hl => ?_)
  refine lv_aload_n hx hb dL_law_925 rfl (lv_at hl 3 rfl) ?_
  refine lv_aload_n hx hb dL_law_926 rfl (lv_at hl 5 rfl) ?_
  refine lv_iload hx hb dL_law_927 (lv_at hl 1 rfl) ?_
  refine lv_iconst (v := 1) hx hb dL_law_929 (by decide) ?_
  refine lv_iadd hx hb dL_law_930 ?_
  refine va_sld hx hb hsc hbl hbA hS (sc_in (k := 1) hI hLm (by decide)) dL_law_931 ?_
  refine r_modi C hL hS (va_runV (As := [.int (xs ((nI I) + 1).toNatClampNeg)]) (rest := []) S (met_X4_grow l D cI cII κm hm τ (xs ((nI I) + 1).toNatClampNeg) v τ' eM) (cwV 1 S.2.2.2.2 gL_law_X4_grow rfl rfl rfl (by decide +kernel) ⟨Nat.le_of_ble_eq_true rfl, Nat.le_of_ble_eq_true rfl⟩) (g_preV (N := 12) (T := TX4) hK hL.2.1 (Nat.le_refl _) (by decide) rfl rfl) rfl rfl hl.1 rfl (lv_room (Nat.le_of_ble_eq_true rfl)) dL_law_932 ⟨(show cells + 1 + 0 ≤ 601024 by omega), (show slots + 6 + 0 ≤ 7293034 by omega)⟩) (fun H locs hL hS => ?_)
  refine lv_istore (lv' := [(6, .int v), (5, .int kk0), (4, .int (nI I)), (3, .ref o), (2, .ref (κm 0)), (1, .ref (κ 0)), (0, .ref b)]) hx hb dL_law_935 hl (by decide) rfl (fun ls hl => ?_)
  refine lv_aload_n hx hb dL_law_937 rfl (lv_at hl 4 rfl) ?_
  refine r_modi C hL hS (va_runV (As := []) (rest := []) S (met_X4_thrown l D cI cII κm hm τ' kk0 (show fn_X4_thrown τ' = some kk0 from congrArg some hkk)) (cwV 0 S.2.2.2.2 gL_law_X4_thrown rfl rfl rfl (by decide +kernel) ⟨Nat.le_of_ble_eq_true rfl, Nat.le_of_ble_eq_true rfl⟩) (g_preV (N := 12) (T := TX4) hK hL.2.1 (Nat.le_refl _) (by decide) rfl rfl) rfl rfl hl.1 rfl (lv_room (Nat.le_of_ble_eq_true rfl)) dL_law_938 ⟨(show cells + 1 + 0 ≤ 601024 by omega), (show slots + 6 + 0 ≤ 7293034 by omega)⟩) (fun H locs hL hS => ?_)
  refine lv_iload hx hb dL_law_941 (lv_at hl 1 rfl) ?_
  refine lv_icmp_eq (tgt := 948) hx hb dL_law_943 (by decide) (fun _ => ?_) (fun hh => absurd rfl hh)
  refine lv_iload hx hb dL_law_948 (lv_at hl 1 rfl) ?_
  refine lv_if_ne (tgt := 965) hx hb dL_law_950 (by decide) (fun ck => ?_) (fun ck => ?_)
  · skip
    refine lv_goto (tgt := 1630) hx hb dL_law_965 (by decide) ?_
    refine W.widen (k := cells + 4) (n := slots + 32) (by omega) (by omega) ?_
    exact kk _ _ _ _ _ _ _ _ _ hT' h' g' hL hS (lv_sub hl [2, 3, 4, 5, 6] rfl)
  · have hz := hz ck
    refine lv_aload_n hx hb dL_law_953 rfl (lv_at hl 3 rfl) ?_
    refine lv_iconst (v := 0) hx hb dL_law_954 (by decide) ?_
    refine r_lald C hL dL_law_955 ?_
    refine lv_iload hx hb dL_law_956 (lv_at hl 0 rfl) ?_
    refine lv_i2l (v := v.toInt64) hx hb dL_law_958 rfl ?_
    rw [show z' = v.toInt64 from hz]
    refine lv_lcmp0 hx hb dL_law_959 ?_
    refine lv_if_eq (tgt := 965) hx hb dL_law_960 (by decide) (fun _ => ?_) (fun hh => absurd rfl hh)
    refine lv_goto (tgt := 1630) hx hb dL_law_965 (by decide) ?_
    refine W.widen (k := cells + 4) (n := slots + 32) (by omega) (by omega) ?_
    exact kk _ _ _ _ _ _ _ _ _ hT' h' g' hL hS (lv_sub hl [2, 3, 4, 5, 6] rfl)

set_option maxRecDepth 100000 in
set_option maxHeartbeats 4000000 in
theorem case_15 {p : Program} {l : Launch} {e : Env} {s : State} {m : MethodId} {args : Array Value} {below : List Frame} {meth : Method} {c : Code} {H : Heap} {locs : List Loc} {cells slots : Nat} {Q : State → Prop} {ls : Array Slot} {D : va_G} {κ κm : Nat → Nat} {cI cII cJ : ClassId} {o b L I n : Nat} {xs : Nat → Int32} {σ τ : SX} {z : Int64} {T : TT} {mk : Option Nat} (C : LawC p l s m args c D cI cII cJ κ κm o b L xs) (hI : I + 4 ≤ L) (hLm : L ≤ 2048) (hc : cells + 4 ≤ 601024) (hs : slots + 32 ≤ 7293034) (hT : Sys n T) (h : XI σ n T mk) (g : MI τ n T mk) (hL : LSt D cI cII cJ κ κm o σ τ z H) (hS : va_S (AL s) s.heap H locs) (hl : lv_has ls 9 [(4, .int (nI I)), (3, .ref o), (2, .ref (κm 0)), (1, .ref (κ 0)), (0, .ref b)])
    (kk : ∀ (σ τ : SX) (z : Int64) (n : Nat) (T : TT) (mk : Option Nat) (H : Heap) (locs : List Loc) (ls : Array Slot), Sys n T → XI σ n T mk → MI τ n T mk → LSt D cI cII cJ κ κm o σ τ z H → va_S (AL s) s.heap H locs → lv_has ls 9 [(4, .int (nI I)), (3, .ref o), (2, .ref (κm 0)), (1, .ref (κ 0)), (0, .ref b)] → W p l e room_1 s m args below meth c H locs (cells + 4) (slots + 32) Q (F0 m 1630 ls [])) :
    W p l e room_1 s m args below meth c H locs cells slots Q (F0 m 968 ls []) := by
  obtain ⟨S, hst, hK, hX, hZ, hJ, hN, hκ, hm, hA, hAm, hAo, hd, ho, hmo, hsc, hbl⟩ := id C
  have hbA : ¬ AL s b := Nat.not_le.mpr hbl
  obtain ⟨hx, hb, hml, hown, hts⟩ := id S
  refine lv_aload_n hx hb dL_law_968 rfl (lv_at hl 3 rfl) ?_
  refine lv_aload_n hx hb dL_law_969 rfl (lv_at hl 4 rfl) ?_
  refine lv_iload hx hb dL_law_970 (lv_at hl 0 rfl) ?_
  refine lv_iconst (v := 1) hx hb dL_law_972 (by decide) ?_
  refine lv_iadd hx hb dL_law_973 ?_
  refine va_sld hx hb hsc hbl hbA hS (sc_in (k := 1) hI hLm (by decide)) dL_law_974 ?_
  refine lv_aload_n hx hb dL_law_975 rfl (lv_at hl 4 rfl) ?_
  refine lv_iload hx hb dL_law_976 (lv_at hl 0 rfl) ?_
  refine lv_iconst (v := 2) hx hb dL_law_978 (by decide) ?_
  refine lv_iadd hx hb dL_law_979 ?_
  refine va_sld hx hb hsc hbl hbA hS (sc_in (k := 2) hI hLm (by decide)) dL_law_980 ?_
  refine lv_aload_n hx hb dL_law_981 rfl (lv_at hl 1 rfl) ?_
  obtain ⟨R9, σ', kk0, z', v, τ', n', T', mk', eX, eW, eM, hT', h', g', hkk, hz⟩ := sim_apart (z := z) hT h g (xs ((nI I) + 1).toNatClampNeg) (xs ((nI I) + 2).toNatClampNeg)
  refine r_wrap C hL hS (vx_runSX (As := [.ref (κ 0), .int (xs ((nI I) + 1).toNatClampNeg), .int (xs ((nI I) + 2).toNatClampNeg), .ref o]) (rest := []) S (lw_apart l hst D cI cII cJ κ hκ o ho σ (xs ((nI I) + 1).toNatClampNeg) (xs ((nI I) + 2).toNatClampNeg) z _ R9 σ' kk0 z' eX eW) (vx_cwSW 4 S.2.2.2.2 gL_law_L_apart rfl rfl rfl (by decide +kernel) ⟨Nat.le_of_ble_eq_true rfl, Nat.le_of_ble_eq_true rfl⟩) (r_preW C hL hS) rfl rfl hl.1 rfl (lv_room (Nat.le_of_ble_eq_true rfl)) dL_law_982 ⟨(show cells + 2 ≤ 601024 by omega), (show slots + 12 ≤ 7293034 by omega)⟩) (fun H locs hL hS => ?_)
  refine lv_istore (lv' := [(5, .int kk0), (4, .int (nI I)), (3, .ref o), (2, .ref (κm 0)), (1, .ref (κ 0)), (0, .ref b)]) hx hb dL_law_985 hl (by decide) rfl (fun ls hl => ?_)
  refine lv_aload_n hx hb dL_law_987 rfl (lv_at hl 3 rfl) ?_
  refine lv_aload_n hx hb dL_law_988 rfl (lv_at hl 5 rfl) ?_
  refine lv_iload hx hb dL_law_989 (lv_at hl 1 rfl) ?_
  refine lv_iconst (v := 1) hx hb dL_law_991 (by decide) ?_
  refine lv_iadd hx hb dL_law_992 ?_
  refine va_sld hx hb hsc hbl hbA hS (sc_in (k := 1) hI hLm (by decide)) dL_law_993 ?_
  refine lv_aload_n hx hb dL_law_994 rfl (lv_at hl 5 rfl) ?_
  refine lv_iload hx hb dL_law_995 (lv_at hl 1 rfl) ?_
  refine lv_iconst (v := 2) hx hb dL_law_997 (by decide) ?_
  refine lv_iadd hx hb dL_law_998 ?_
  refine va_sld hx hb hsc hbl hbA hS (sc_in (k := 2) hI hLm (by decide)) dL_law_999 ?_
  refine r_modi C hL hS (va_runV (As := [.int (xs ((nI I) + 1).toNatClampNeg), .int (xs ((nI I) + 2).toNatClampNeg)]) (rest := []) S (met_X4_apart l D cI cII κm hm τ (xs ((nI I) + 1).toNatClampNeg) (xs ((nI I) + 2).toNatClampNeg) v τ' eM) (cwV 2 S.2.2.2.2 gL_law_X4_apart rfl rfl rfl (by decide +kernel) ⟨Nat.le_of_ble_eq_true rfl, Nat.le_of_ble_eq_true rfl⟩) (g_preV (N := 12) (T := TX4) hK hL.2.1 (Nat.le_refl _) (by decide) rfl rfl) rfl rfl hl.1 rfl (lv_room (Nat.le_of_ble_eq_true rfl)) dL_law_1000 ⟨(show cells + 2 + 0 ≤ 601024 by omega), (show slots + 12 + 0 ≤ 7293034 by omega)⟩) (fun H locs hL hS => ?_)
  refine lv_istore (lv' := [(6, .int v), (5, .int kk0), (4, .int (nI I)), (3, .ref o), (2, .ref (κm 0)), (1, .ref (κ 0)), (0, .ref b)]) hx hb dL_law_1003 hl (by decide) rfl (fun ls hl => ?_)
  refine lv_aload_n hx hb dL_law_1005 rfl (lv_at hl 4 rfl) ?_
  refine r_modi C hL hS (va_runV (As := []) (rest := []) S (met_X4_thrown l D cI cII κm hm τ' kk0 (show fn_X4_thrown τ' = some kk0 from congrArg some hkk)) (cwV 0 S.2.2.2.2 gL_law_X4_thrown rfl rfl rfl (by decide +kernel) ⟨Nat.le_of_ble_eq_true rfl, Nat.le_of_ble_eq_true rfl⟩) (g_preV (N := 12) (T := TX4) hK hL.2.1 (Nat.le_refl _) (by decide) rfl rfl) rfl rfl hl.1 rfl (lv_room (Nat.le_of_ble_eq_true rfl)) dL_law_1006 ⟨(show cells + 2 + 0 ≤ 601024 by omega), (show slots + 12 + 0 ≤ 7293034 by omega)⟩) (fun H locs hL hS => ?_)
  refine lv_iload hx hb dL_law_1009 (lv_at hl 1 rfl) ?_
  refine lv_icmp_eq (tgt := 1016) hx hb dL_law_1011 (by decide) (fun _ => ?_) (fun hh => absurd rfl hh)
  refine lv_iload hx hb dL_law_1016 (lv_at hl 1 rfl) ?_
  refine lv_if_ne (tgt := 1033) hx hb dL_law_1018 (by decide) (fun ck => ?_) (fun ck => ?_)
  · skip
    refine lv_goto (tgt := 1630) hx hb dL_law_1033 (by decide) ?_
    refine W.widen (k := cells + 4) (n := slots + 32) (by omega) (by omega) ?_
    exact kk _ _ _ _ _ _ _ _ _ hT' h' g' hL hS (lv_sub hl [2, 3, 4, 5, 6] rfl)
  · have hz := hz ck
    refine lv_aload_n hx hb dL_law_1021 rfl (lv_at hl 3 rfl) ?_
    refine lv_iconst (v := 0) hx hb dL_law_1022 (by decide) ?_
    refine r_lald C hL dL_law_1023 ?_
    refine lv_iload hx hb dL_law_1024 (lv_at hl 0 rfl) ?_
    refine lv_i2l (v := v.toInt64) hx hb dL_law_1026 rfl ?_
    rw [show z' = v.toInt64 from hz]
    refine lv_lcmp0 hx hb dL_law_1027 ?_
    refine lv_if_eq (tgt := 1033) hx hb dL_law_1028 (by decide) (fun _ => ?_) (fun hh => absurd rfl hh)
    refine lv_goto (tgt := 1630) hx hb dL_law_1033 (by decide) ?_
    refine W.widen (k := cells + 4) (n := slots + 32) (by omega) (by omega) ?_
    exact kk _ _ _ _ _ _ _ _ _ hT' h' g' hL hS (lv_sub hl [2, 3, 4, 5, 6] rfl)

