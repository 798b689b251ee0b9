/-! 85a: by wip/whole/gencase.py: the calls of the law, one by one -/
set_option maxRecDepth 100000 in
set_option maxHeartbeats 4000000 in
theorem case_0 {p : Program} {l : Launch} {e : Env} {s : State} {m : MethodId} {args : Array Value} {below : List Frame} {meth : Method} {c : Code} {H : Heap} {locs : List Loc} {cells slots : Nat} {Q : State → Prop} {ls : Array Slot} {D : va_G} {κ κm : Nat → Nat} {cI cII cJ : ClassId} {o b L I n : Nat} {xs : Nat → Int32} {σ τ : SX} {z : Int64} {T : TT} {mk : Option Nat} (C : LawC p l s m args c D cI cII cJ κ κm o b L xs) (hI : I + 4 ≤ L) (hLm : L ≤ 2048) (hc : cells + 4 ≤ 601024) (hs : slots + 32 ≤ 7293034) (hT : Sys n T) (h : XI σ n T mk) (g : MI τ n T mk) (hL : LSt D cI cII cJ κ κm o σ τ z H) (hS : va_S (AL s) s.heap H locs) (hl : lv_has ls 9 [(4, .int (nI I)), (3, .ref o), (2, .ref (κm 0)), (1, .ref (κ 0)), (0, .ref b)])
    (kk : ∀ (σ τ : SX) (z : Int64) (n : Nat) (T : TT) (mk : Option Nat) (H : Heap) (locs : List Loc) (ls : Array Slot), Sys n T → XI σ n T mk → MI τ n T mk → LSt D cI cII cJ κ κm o σ τ z H → va_S (AL s) s.heap H locs → lv_has ls 9 [(4, .int (nI I)), (3, .ref o), (2, .ref (κm 0)), (1, .ref (κ 0)), (0, .ref b)] → W p l e room_1 s m args below meth c H locs (cells + 4) (slots + 32) Q (F0 m 1630 ls [])) :
    W p l e room_1 s m args below meth c H locs cells slots Q (F0 m 176 ls []) := by
  obtain ⟨S, hst, hK, hX, hZ, hJ, hN, hκ, hm, hA, hAm, hAo, hd, ho, hmo, hsc, hbl⟩ := id C
  have hbA : ¬ AL s b := Nat.not_le.mpr hbl
  obtain ⟨hx, hb, hml, hown, hts⟩ := id S
  refine lv_aload_n hx hb dL_law_176 rfl (lv_at hl 3 rfl) ?_
  refine lv_aload_n hx hb dL_law_177 rfl (lv_at hl 1 rfl) ?_
  obtain ⟨R9, σ', kk0, z', v, τ', n', T', mk', eX, eW, eM, hT', h', g', hkk, hz⟩ := sim_addState (z := z) hT h g
  refine r_wrap C hL hS (vx_runSX (As := [.ref (κ 0), .ref o]) (rest := []) S (lw_addState l hst D cI cII cJ κ hκ o ho σ z _ R9 σ' kk0 z' eX eW) (vx_cwSW 2 S.2.2.2.2 gL_law_L_addState rfl rfl rfl (by decide +kernel) ⟨Nat.le_of_ble_eq_true rfl, Nat.le_of_ble_eq_true rfl⟩) (r_preW C hL hS) rfl rfl hl.1 rfl (lv_room (Nat.le_of_ble_eq_true rfl)) dL_law_178 ⟨(show cells + 1 ≤ 601024 by omega), (show slots + 6 ≤ 7293034 by omega)⟩) (fun H locs hL hS => ?_)
  refine lv_istore (lv' := [(5, .int kk0), (4, .int (nI I)), (3, .ref o), (2, .ref (κm 0)), (1, .ref (κ 0)), (0, .ref b)]) hx hb dL_law_181 hl (by decide) rfl (fun ls hl => ?_)
  refine lv_aload_n hx hb dL_law_183 rfl (lv_at hl 3 rfl) ?_
  refine r_modi C hL hS (va_runV (As := []) (rest := []) S (met_X4_addState l D cI cII κm hm τ v τ' eM) (cwV 0 S.2.2.2.2 gL_law_X4_addState rfl rfl rfl (by decide +kernel) ⟨Nat.le_of_ble_eq_true rfl, Nat.le_of_ble_eq_true rfl⟩) (g_preV (N := 12) (T := TX4) hK hL.2.1 (Nat.le_refl _) (by decide) rfl rfl) rfl rfl hl.1 rfl (lv_room (Nat.le_of_ble_eq_true rfl)) dL_law_184 ⟨(show cells + 1 + 0 ≤ 601024 by omega), (show slots + 6 + 0 ≤ 7293034 by omega)⟩) (fun H locs hL hS => ?_)
  refine lv_istore (lv' := [(6, .int v), (5, .int kk0), (4, .int (nI I)), (3, .ref o), (2, .ref (κm 0)), (1, .ref (κ 0)), (0, .ref b)]) hx hb dL_law_187 hl (by decide) rfl (fun ls hl => ?_)
  refine lv_aload_n hx hb dL_law_189 rfl (lv_at hl 4 rfl) ?_
  refine r_modi C hL hS (va_runV (As := []) (rest := []) S (met_X4_thrown l D cI cII κm hm τ' kk0 (show fn_X4_thrown τ' = some kk0 from congrArg some hkk)) (cwV 0 S.2.2.2.2 gL_law_X4_thrown rfl rfl rfl (by decide +kernel) ⟨Nat.le_of_ble_eq_true rfl, Nat.le_of_ble_eq_true rfl⟩) (g_preV (N := 12) (T := TX4) hK hL.2.1 (Nat.le_refl _) (by decide) rfl rfl) rfl rfl hl.1 rfl (lv_room (Nat.le_of_ble_eq_true rfl)) dL_law_190 ⟨(show cells + 1 + 0 ≤ 601024 by omega), (show slots + 6 + 0 ≤ 7293034 by omega)⟩) (fun H locs hL hS => ?_)
  refine lv_iload hx hb dL_law_193 (lv_at hl 1 rfl) ?_
  refine lv_icmp_eq (tgt := 200) hx hb dL_law_195 (by decide) (fun _ => ?_) (fun hh => absurd rfl hh)
  refine lv_iload hx hb dL_law_200 (lv_at hl 1 rfl) ?_
  refine lv_if_ne (tgt := 217) hx hb dL_law_202 (by decide) (fun ck => ?_) (fun ck => ?_)
  · skip
    refine lv_goto (tgt := 1630) hx hb dL_law_217 (by decide) ?_
    refine W.widen (k := cells + 4) (n := slots + 32) (by omega) (by omega) ?_
    exact kk _ _ _ _ _ _ _ _ _ hT' h' g' hL hS (lv_sub hl [2, 3, 4, 5, 6] rfl)
  · have hz := hz ck
    refine lv_aload_n hx hb dL_law_205 rfl (lv_at hl 3 rfl) ?_
    refine lv_iconst (v := 0) hx hb dL_law_206 (by decide) ?_
    refine r_lald C hL dL_law_207 ?_
    refine lv_iload hx hb dL_law_208 (lv_at hl 0 rfl) ?_
    refine lv_i2l (v := v.toInt64) hx hb dL_law_210 rfl ?_
    rw [show z' = v.toInt64 from hz]
    refine lv_lcmp0 hx hb dL_law_211 ?_
    refine lv_if_eq (tgt := 217) hx hb dL_law_212 (by decide) (fun _ => ?_) (fun hh => absurd rfl hh)
    refine lv_goto (tgt := 1630) hx hb dL_law_217 (by decide) ?_
    refine W.widen (k := cells + 4) (n := slots + 32) (by omega) (by omega) ?_
    exact kk _ _ _ _ _ _ _ _ _ hT' h' g' hL hS (lv_sub hl [2, 3, 4, 5, 6] rfl)

set_option maxRecDepth 100000 in
set_option maxHeartbeats 4000000 in
theorem case_1 {p : Program} {l : Launch} {e : Env} {s : State} {m : MethodId} {args : Array Value} {below : List Frame} {meth : Method} {c : Code} {H : Heap} {locs : List Loc} {cells slots : Nat} {Q : State → Prop} {ls : Array Slot} {D : va_G} {κ κm : Nat → Nat} {cI cII cJ : ClassId} {o b L I n : Nat} {xs : Nat → Int32} {σ τ : SX} {z : Int64} {T : TT} {mk : Option Nat} (C : LawC p l s m args c D cI cII cJ κ κm o b L xs) (hI : I + 4 ≤ L) (hLm : L ≤ 2048) (hc : cells + 4 ≤ 601024) (hs : slots + 32 ≤ 7293034) (hT : Sys n T) (h : XI σ n T mk) (g : MI τ n T mk) (hL : LSt D cI cII cJ κ κm o σ τ z H) (hS : va_S (AL s) s.heap H locs) (hl : lv_has ls 9 [(4, .int (nI I)), (3, .ref o), (2, .ref (κm 0)), (1, .ref (κ 0)), (0, .ref b)])
    (kk : ∀ (σ τ : SX) (z : Int64) (n : Nat) (T : TT) (mk : Option Nat) (H : Heap) (locs : List Loc) (ls : Array Slot), Sys n T → XI σ n T mk → MI τ n T mk → LSt D cI cII cJ κ κm o σ τ z H → va_S (AL s) s.heap H locs → lv_has ls 9 [(4, .int (nI I)), (3, .ref o), (2, .ref (κm 0)), (1, .ref (κ 0)), (0, .ref b)] → W p l e room_1 s m args below meth c H locs (cells + 4) (slots + 32) Q (F0 m 1630 ls [])) :
    W p l e room_1 s m args below meth c H locs cells slots Q (F0 m 220 ls []) := by
  obtain ⟨S, hst, hK, hX, hZ, hJ, hN, hκ, hm, hA, hAm, hAo, hd, ho, hmo, hsc, hbl⟩ := id C
  have hbA : ¬ AL s b := Nat.not_le.mpr hbl
  obtain ⟨hx, hb, hml, hown, hts⟩ := id S
  refine lv_aload_n hx hb dL_law_220 rfl (lv_at hl 3 rfl) ?_
  refine lv_aload_n hx hb dL_law_221 rfl (lv_at hl 4 rfl) ?_
  refine lv_iload hx hb dL_law_222 (lv_at hl 0 rfl) ?_
  refine lv_iconst (v := 1) hx hb dL_law_224 (by decide) ?_
  refine lv_iadd hx hb dL_law_225 ?_
  refine va_sld hx hb hsc hbl hbA hS (sc_in (k := 1) hI hLm (by decide)) dL_law_226 ?_
  refine lv_aload_n hx hb dL_law_227 rfl (lv_at hl 4 rfl) ?_
  refine lv_iload hx hb dL_law_228 (lv_at hl 0 rfl) ?_
  refine lv_iconst (v := 2) hx hb dL_law_230 (by decide) ?_
  refine lv_iadd hx hb dL_law_231 ?_
  refine va_sld hx hb hsc hbl hbA hS (sc_in (k := 2) hI hLm (by decide)) dL_law_232 ?_
  refine lv_aload_n hx hb dL_law_233 rfl (lv_at hl 4 rfl) ?_
  refine lv_iload hx hb dL_law_234 (lv_at hl 0 rfl) ?_
  refine lv_iconst (v := 3) hx hb dL_law_236 (by decide) ?_
  refine lv_iadd hx hb dL_law_237 ?_
  refine va_sld hx hb hsc hbl hbA hS (sc_in (k := 3) hI hLm (by decide)) dL_law_238 ?_
  refine lv_aload_n hx hb dL_law_239 rfl (lv_at hl 1 rfl) ?_
  obtain ⟨R9, σ', kk0, z', v, τ', n', T', mk', eX, eW, eM, hT', h', g', hkk, hz⟩ := sim_step (z := z) hT h g (xs ((nI I) + 1).toNatClampNeg) (xs ((nI I) + 2).toNatClampNeg) (xs ((nI I) + 3).toNatClampNeg)
  refine r_wrap C hL hS (vx_runSX (As := [.ref (κ 0), .int (xs ((nI I) + 1).toNatClampNeg), .int (xs ((nI I) + 2).toNatClampNeg), .int (xs ((nI I) + 3).toNatClampNeg), .ref o]) (rest := []) S (lw_step l hst D cI cII cJ κ hκ o ho σ (xs ((nI I) + 1).toNatClampNeg) (xs ((nI I) + 2).toNatClampNeg) (xs ((nI I) + 3).toNatClampNeg) z _ R9 σ' kk0 z' eX eW) (vx_cwSW 5 S.2.2.2.2 gL_law_L_step rfl rfl rfl (by decide +kernel) ⟨Nat.le_of_ble_eq_true rfl, Nat.le_of_ble_eq_true rfl⟩) (r_preW C hL hS) rfl rfl hl.1 rfl (lv_room (Nat.le_of_ble_eq_true rfl)) dL_law_240 ⟨(show cells + 3 ≤ 601024 by omega), (show slots + 18 ≤ 7293034 by omega)⟩) (fun H locs hL hS => ?_)
  refine lv_istore (lv' := [(5, .int kk0), (4, .int (nI I)), (3, .ref o), (2, .ref (κm 0)), (1, .ref (κ 0)), (0, .ref b)]) hx hb dL_law_243 hl (by decide) rfl (fun ls hl => ?_)
  refine lv_aload_n hx hb dL_law_245 rfl (lv_at hl 3 rfl) ?_
  refine lv_aload_n hx hb dL_law_246 rfl (lv_at hl 5 rfl) ?_
  refine lv_iload hx hb dL_law_247 (lv_at hl 1 rfl) ?_
  refine lv_iconst (v := 1) hx hb dL_law_249 (by decide) ?_
  refine lv_iadd hx hb dL_law_250 ?_
  refine va_sld hx hb hsc hbl hbA hS (sc_in (k := 1) hI hLm (by decide)) dL_law_251 ?_
  refine lv_aload_n hx hb dL_law_252 rfl (lv_at hl 5 rfl) ?_
  refine lv_iload hx hb dL_law_253 (lv_at hl 1 rfl) ?_
  refine lv_iconst (v := 2) hx hb dL_law_255 (by decide) ?_
  refine lv_iadd hx hb dL_law_256 ?_
  refine va_sld hx hb hsc hbl hbA hS (sc_in (k := 2) hI hLm (by decide)) dL_law_257 ?_
  refine lv_aload_n hx hb dL_law_258 rfl (lv_at hl 5 rfl) ?_
  refine lv_iload hx hb dL_law_259 (lv_at hl 1 rfl) ?_
  refine lv_iconst (v := 3) hx hb dL_law_261 (by decide) ?_
  refine lv_iadd hx hb dL_law_262 ?_
  refine va_sld hx hb hsc hbl hbA hS (sc_in (k := 3) hI hLm (by decide)) dL_law_263 ?_
  refine r_modi C hL hS (va_runV (As := [.int (xs ((nI I) + 1).toNatClampNeg), .int (xs ((nI I) + 2).toNatClampNeg), .int (xs ((nI I) + 3).toNatClampNeg)]) (rest := []) S (met_X4_step l D cI cII κm hm τ (xs ((nI I) + 1).toNatClampNeg) (xs ((nI I) + 2).toNatClampNeg) (xs ((nI I) + 3).toNatClampNeg) v τ' eM) (cwV 3 S.2.2.2.2 gL_law_X4_step rfl rfl rfl (by decide +kernel) ⟨Nat.le_of_ble_eq_true rfl, Nat.le_of_ble_eq_true rfl⟩) (g_preV (N := 12) (T := TX4) hK hL.2.1 (Nat.le_refl _) (by decide) rfl rfl) rfl rfl hl.1 rfl (lv_room (Nat.le_of_ble_eq_true rfl)) dL_law_264 ⟨(show cells + 3 + 0 ≤ 601024 by omega), (show slots + 18 + 0 ≤ 7293034 by omega)⟩) (fun H locs hL hS => ?_)
  refine lv_istore (lv' := [(6, .int v), (5, .int kk0), (4, .int (nI I)), (3, .ref o), (2, .ref (κm 0)), (1, .ref (κ 0)), (0, .ref b)]) hx hb dL_law_267 hl (by decide) rfl (fun ls hl => ?_)
  refine lv_aload_n hx hb dL_law_269 rfl (lv_at hl 4 rfl) ?_
  refine r_modi C hL hS (va_runV (As := []) (rest := []) S (met_X4_thrown l D cI cII κm hm τ' kk0 (show fn_X4_thrown τ' = some kk0 from congrArg some hkk)) (cwV 0 S.2.2.2.2 gL_law_X4_thrown rfl rfl rfl (by decide +kernel) ⟨Nat.le_of_ble_eq_true rfl, Nat.le_of_ble_eq_true rfl⟩) (g_preV (N := 12) (T := TX4) hK hL.2.1 (Nat.le_refl _) (by decide) rfl rfl) rfl rfl hl.1 rfl (lv_room (Nat.le_of_ble_eq_true rfl)) dL_law_270 ⟨(show cells + 3 + 0 ≤ 601024 by omega), (show slots + 18 + 0 ≤ 7293034 by omega)⟩) (fun H locs hL hS => ?_)
  refine lv_iload hx hb dL_law_273 (lv_at hl 1 rfl) ?_
  refine lv_icmp_eq (tgt := 280) hx hb dL_law_275 (by decide) (fun _ => ?_) (fun hh => absurd rfl hh)
  refine lv_iload hx hb dL_law_280 (lv_at hl 1 rfl) ?_
  refine lv_if_ne (tgt := 297) hx hb dL_law_282 (by decide) (fun ck => ?_) (fun ck => ?_)
  · skip
    refine lv_goto (tgt := 1630) hx hb dL_law_297 (by decide) ?_
    refine W.widen (k := cells + 4) (n := slots + 32) (by omega) (by omega) ?_
    exact kk _ _ _ _ _ _ _ _ _ hT' h' g' hL hS (lv_sub hl [2, 3, 4, 5, 6] rfl)
  · have hz := hz ck
    refine lv_aload_n hx hb dL_law_285 rfl (lv_at hl 3 rfl) ?_
    refine lv_iconst (v := 0) hx hb dL_law_286 (by decide) ?_
    refine r_lald C hL dL_law_287 ?_
    refine lv_iload hx hb dL_law_288 (lv_at hl 0 rfl) ?_
    refine lv_i2l (v := v.toInt64) hx hb dL_law_290 rfl ?_
    rw [show z' = v.toInt64 from hz]
    refine lv_lcmp0 hx hb dL_law_291 ?_
    refine lv_if_eq (tgt := 297) hx hb dL_law_292 (by decide) (fun _ => ?_) (fun hh => absurd rfl hh)
    refine lv_goto (tgt := 1630) hx hb dL_law_297 (by decide) ?_
    refine W.widen (k := cells + 4) (n := slots + 32) (by omega) (by omega) ?_
    exact kk _ _ _ _ _ _ _ _ _ hT' h' g' hL hS (lv_sub hl [2, 3, 4, 5, 6] rfl)

set_option maxRecDepth 100000 in
set_option maxHeartbeats 4000000 in
theorem case_2 {p : Program} {l : Launch} {e : Env} {s : State} {m : MethodId} {args : Array Value} {below : List Frame} {meth : Method} {c : Code} {H : Heap} {locs : List Loc} {cells slots : Nat} {Q : State → Prop} {ls : Array Slot} {D : va_G} {κ κm : Nat → Nat} {cI cII cJ : ClassId} {o b L I n : Nat} {xs : Nat → Int32} {σ τ : SX} {z : Int64} {T : TT} {mk : Option Nat} (C : LawC p l s m args c D cI cII cJ κ κm o b L xs) (hI : I + 4 ≤ L) (hLm : L ≤ 2048) (hc : cells + 4 ≤ 601024) (hs : slots + 32 ≤ 7293034) (hT : Sys n T) (h : XI σ n T mk) (g : MI τ n T mk) (hL : LSt D cI cII cJ κ κm o σ τ z H) (hS : va_S (AL s) s.heap H locs) (hl : lv_has ls 9 [(4, .int (nI I)), (3, .ref o), (2, .ref (κm 0)), (1, .ref (κ 0)), (0, .ref b)])
    (kk : ∀ (σ τ : SX) (z : Int64) (n : Nat) (T : TT) (mk : Option Nat) (H : Heap) (locs : List Loc) (ls : Array Slot), Sys n T → XI σ n T mk → MI τ n T mk → LSt D cI cII cJ κ κm o σ τ z H → va_S (AL s) s.heap H locs → lv_has ls 9 [(4, .int (nI I)), (3, .ref o), (2, .ref (κm 0)), (1, .ref (κ 0)), (0, .ref b)] → W p l e room_1 s m args below meth c H locs (cells + 4) (slots + 32) Q (F0 m 1630 ls [])) :
    W p l e room_1 s m args below meth c H locs cells slots Q (F0 m 300 ls []) := by
  obtain ⟨S, hst, hK, hX, hZ, hJ, hN, hκ, hm, hA, hAm, hAo, hd, ho, hmo, hsc, hbl⟩ := id C
  have hbA : ¬ AL s b := Nat.not_le.mpr hbl
  obtain ⟨hx, hb, hml, hown, hts⟩ := id S
  refine lv_aload_n hx hb dL_law_300 rfl (lv_at hl 3 rfl) ?_
  refine lv_aload_n hx hb dL_law_301 rfl (lv_at hl 4 rfl) ?_
  refine lv_iload hx hb dL_law_302 (lv_at hl 0 rfl) ?_
  refine lv_iconst (v := 1) hx hb dL_law_304 (by decide) ?_
  refine lv_iadd hx hb dL_law_305 ?_
  refine va_sld hx hb hsc hbl hbA hS (sc_in (k := 1) hI hLm (by decide)) dL_law_306 ?_
  refine lv_aload_n hx hb dL_law_307 rfl (lv_at hl 4 rfl) ?_
  refine lv_iload hx hb dL_law_308 (lv_at hl 0 rfl) ?_
  refine lv_iconst (v := 2) hx hb dL_law_310 (by decide) ?_
  refine lv_iadd hx hb dL_law_311 ?_
  refine va_sld hx hb hsc hbl hbA hS (sc_in (k := 2) hI hLm (by decide)) dL_law_312 ?_
  refine lv_aload_n hx hb dL_law_313 rfl (lv_at hl 1 rfl) ?_
  obtain ⟨R9, σ', kk0, z', v, τ', n', T', mk', eX, eW, eM, hT', h', g', hkk, hz⟩ := sim_unstep (z := z) hT h g (xs ((nI I) + 1).toNatClampNeg) (xs ((nI I) + 2).toNatClampNeg)
  refine r_wrap C hL hS (vx_runSX (As := [.ref (κ 0), .int (xs ((nI I) + 1).toNatClampNeg), .int (xs ((nI I) + 2).toNatClampNeg), .ref o]) (rest := []) S (lw_unstep l hst D cI cII cJ κ hκ o ho σ (xs ((nI I) + 1).toNatClampNeg) (xs ((nI I) + 2).toNatClampNeg) z _ R9 σ' kk0 z' eX eW) (vx_cwSW 4 S.2.2.2.2 gL_law_L_unstep rfl rfl rfl (by decide +kernel) ⟨Nat.le_of_ble_eq_true rfl, Nat.le_of_ble_eq_true rfl⟩) (r_preW C hL hS) rfl rfl hl.1 rfl (lv_room (Nat.le_of_ble_eq_true rfl)) dL_law_314 ⟨(show cells + 2 ≤ 601024 by omega), (show slots + 12 ≤ 7293034 by omega)⟩) (fun H locs hL hS => ?_)
  refine lv_istore (lv' := [(5, .int kk0), (4, .int (nI I)), (3, .ref o), (2, .ref (κm 0)), (1, .ref (κ 0)), (0, .ref b)]) hx hb dL_law_317 hl (by decide) rfl (fun ls hl => ?_)
  refine lv_aload_n hx hb dL_law_319 rfl (lv_at hl 3 rfl) ?_
  refine lv_aload_n hx hb dL_law_320 rfl (lv_at hl 5 rfl) ?_
  refine lv_iload hx hb dL_law_321 (lv_at hl 1 rfl) ?_
  refine lv_iconst (v := 1) hx hb dL_law_323 (by decide) ?_
  refine lv_iadd hx hb dL_law_324 ?_
  refine va_sld hx hb hsc hbl hbA hS (sc_in (k := 1) hI hLm (by decide)) dL_law_325 ?_
  refine lv_aload_n hx hb dL_law_326 rfl (lv_at hl 5 rfl) ?_
  refine lv_iload hx hb dL_law_327 (lv_at hl 1 rfl) ?_
  refine lv_iconst (v := 2) hx hb dL_law_329 (by decide) ?_
  refine lv_iadd hx hb dL_law_330 ?_
  refine va_sld hx hb hsc hbl hbA hS (sc_in (k := 2) hI hLm (by decide)) dL_law_331 ?_
  refine r_modi C hL hS (va_runV (As := [.int (xs ((nI I) + 1).toNatClampNeg), .int (xs ((nI I) + 2).toNatClampNeg)]) (rest := []) S (met_X4_unstep l D cI cII κm hm τ (xs ((nI I) + 1).toNatClampNeg) (xs ((nI I) + 2).toNatClampNeg) v τ' eM) (cwV 2 S.2.2.2.2 gL_law_X4_unstep rfl rfl rfl (by decide +kernel) ⟨Nat.le_of_ble_eq_true rfl, Nat.le_of_ble_eq_true rfl⟩) (g_preV (N := 12) (T := TX4) hK hL.2.1 (Nat.le_refl _) (by decide) rfl rfl) rfl rfl hl.1 rfl (lv_room (Nat.le_of_ble_eq_true rfl)) dL_law_332 ⟨(show cells + 2 + 0 ≤ 601024 by omega), (show slots + 12 + 0 ≤ 7293034 by omega)⟩) (fun H locs hL hS => ?_)
  refine lv_istore (lv' := [(6, .int v), (5, .int kk0), (4, .int (nI I)), (3, .ref o), (2, .ref (κm 0)), (1, .ref (κ 0)), (0, .ref b)]) hx hb dL_law_335 hl (by decide) rfl (fun ls hl => ?_)
  refine lv_aload_n hx hb dL_law_337 rfl (lv_at hl 4 rfl) ?_
  refine r_modi C hL hS (va_runV (As := []) (rest := []) S (met_X4_thrown l D cI cII κm hm τ' kk0 (show fn_X4_thrown τ' = some kk0 from congrArg some hkk)) (cwV 0 S.2.2.2.2 gL_law_X4_thrown rfl rfl rfl (by decide +kernel) ⟨Nat.le_of_ble_eq_true rfl, Nat.le_of_ble_eq_true rfl⟩) (g_preV (N := 12) (T := TX4) hK hL.2.1 (Nat.le_refl _) (by decide) rfl rfl) rfl rfl hl.1 rfl (lv_room (Nat.le_of_ble_eq_true rfl)) dL_law_338 ⟨(show cells + 2 + 0 ≤ 601024 by omega), (show slots + 12 + 0 ≤ 7293034 by omega)⟩) (fun H locs hL hS => ?_)
  refine lv_iload hx hb dL_law_341 (lv_at hl 1 rfl) ?_
  refine lv_icmp_eq (tgt := 348) hx hb dL_law_343 (by decide) (fun _ => ?_) (fun hh => absurd rfl hh)
  refine lv_iload hx hb dL_law_348 (lv_at hl 1 rfl) ?_
  refine lv_if_ne (tgt := 372) hx hb dL_law_350 (by decide) (fun ck => ?_) (fun ck => ?_)
  · skip
    refine lv_goto (tgt := 1630) hx hb dL_law_372 (by decide) ?_
    refine W.widen (k := cells + 4) (n := slots + 32) (by omega) (by omega) ?_
    exact kk _ _ _ _ _ _ _ _ _ hT' h' g' hL hS (lv_sub hl [2, 3, 4, 5, 6] rfl)
  · have hz := hz ck
    refine lv_aload_n hx hb dL_law_353 rfl (lv_at hl 3 rfl) ?_
    refine lv_iconst (v := 0) hx hb dL_law_354 (by decide) ?_
    refine r_lald C hL dL_law_355 ?_
    refine lv_iload hx hb dL_law_356 (lv_at hl 0 rfl) ?_
    refine lv_if_eq (tgt := 365) hx hb dL_law_358 (by decide) (fun cv => ?_) (fun cv => ?_)
    · have hz : z' = 0 := hz.trans (if_pos cv)
      refine lv_lconst (v := 0) hx hb dL_law_365 rfl ?_
      rw [show z' = 0 from hz]
      refine lv_lcmp0 hx hb dL_law_366 ?_
      refine lv_if_eq (tgt := 372) hx hb dL_law_367 (by decide) (fun _ => ?_) (fun hh => absurd rfl hh)
      refine lv_goto (tgt := 1630) hx hb dL_law_372 (by decide) ?_
      refine W.widen (k := cells + 4) (n := slots + 32) (by omega) (by omega) ?_
      exact kk _ _ _ _ _ _ _ _ _ hT' h' g' hL hS (lv_sub hl [2, 3, 4, 5, 6] rfl)
    · have hz : z' = 1 := hz.trans (if_neg cv)
      refine lv_lconst (v := 1) hx hb dL_law_361 rfl ?_
      refine lv_goto (tgt := 366) hx hb dL_law_362 (by decide) ?_
      rw [show z' = 1 from hz]
      refine lv_lcmp0 hx hb dL_law_366 ?_
      refine lv_if_eq (tgt := 372) hx hb dL_law_367 (by decide) (fun _ => ?_) (fun hh => absurd rfl hh)
      refine lv_goto (tgt := 1630) hx hb dL_law_372 (by decide) ?_
      refine W.widen (k := cells + 4) (n := slots + 32) (by omega) (by omega) ?_
      exact kk _ _ _ _ _ _ _ _ _ hT' h' g' hL hS (lv_sub hl [2, 3, 4, 5, 6] rfl)

set_option maxRecDepth 100000 in
set_option maxHeartbeats 4000000 in
theorem case_3 {p : Program} {l : Launch} {e : Env} {s : State} {m : MethodId} {args : Array Value} {below : List Frame} {meth : Method} {c : Code} {H : Heap} {locs : List Loc} {cells slots : Nat} {Q : State → Prop} {ls : Array Slot} {D : va_G} {κ κm : Nat → Nat} {cI cII cJ : ClassId} {o b L I n : Nat} {xs : Nat → Int32} {σ τ : SX} {z : Int64} {T : TT} {mk : Option Nat} (C : LawC p l s m args c D cI cII cJ κ κm o b L xs) (hI : I + 4 ≤ L) (hLm : L ≤ 2048) (hc : cells + 4 ≤ 601024) (hs : slots + 32 ≤ 7293034) (hT : Sys n T) (h : XI σ n T mk) (g : MI τ n T mk) (hL : LSt D cI cII cJ κ κm o σ τ z H) (hS : va_S (AL s) s.heap H locs) (hl : lv_has ls 9 [(4, .int (nI I)), (3, .ref o), (2, .ref (κm 0)), (1, .ref (κ 0)), (0, .ref b)])
    (kk : ∀ (σ τ : SX) (z : Int64) (n : Nat) (T : TT) (mk : Option Nat) (H : Heap) (locs : List Loc) (ls : Array Slot), Sys n T → XI σ n T mk → MI τ n T mk → LSt D cI cII cJ κ κm o σ τ z H → va_S (AL s) s.heap H locs → lv_has ls 9 [(4, .int (nI I)), (3, .ref o), (2, .ref (κm 0)), (1, .ref (κ 0)), (0, .ref b)] → W p l e room_1 s m args below meth c H locs (cells + 4) (slots + 32) Q (F0 m 1630 ls [])) :
    W p l e room_1 s m args below meth c H locs cells slots Q (F0 m 375 ls []) := by
  obtain ⟨S, hst, hK, hX, hZ, hJ, hN, hκ, hm, hA, hAm, hAo, hd, ho, hmo, hsc, hbl⟩ := id C
  have hbA : ¬ AL s b := Nat.not_le.mpr hbl
  obtain ⟨hx, hb, hml, hown, hts⟩ := id S
  refine lv_aload_n hx hb dL_law_375 rfl (lv_at hl 3 rfl) ?_
  refine lv_aload_n hx hb dL_law_376 rfl (lv_at hl 4 rfl) ?_
  refine lv_iload hx hb dL_law_377 (lv_at hl 0 rfl) ?_
  refine lv_iconst (v := 1) hx hb dL_law_379 (by decide) ?_
  refine lv_iadd hx hb dL_law_380 ?_
  refine va_sld hx hb hsc hbl hbA hS (sc_in (k := 1) hI hLm (by decide)) dL_law_381 ?_
  refine lv_aload_n hx hb dL_law_382 rfl (lv_at hl 4 rfl) ?_
  refine lv_iload hx hb dL_law_383 (lv_at hl 0 rfl) ?_
  refine lv_iconst (v := 2) hx hb dL_law_385 (by decide) ?_
  refine lv_iadd hx hb dL_law_386 ?_
  refine va_sld hx hb hsc hbl hbA hS (sc_in (k := 2) hI hLm (by decide)) dL_law_387 ?_
  refine lv_aload_n hx hb dL_law_388 rfl (lv_at hl 1 rfl) ?_
  obtain ⟨R9, σ', kk0, z', v, τ', n', T', mk', eX, eW, eM, hT', h', g', hkk, hz⟩ := sim_rename (z := z) hT h g (xs ((nI I) + 1).toNatClampNeg) (xs ((nI I) + 2).toNatClampNeg)
  refine r_wrap C hL hS (vx_runSX (As := [.ref (κ 0), .int (xs ((nI I) + 1).toNatClampNeg), .int (xs ((nI I) + 2).toNatClampNeg), .ref o]) (rest := []) S (lw_rename l hst D cI cII cJ κ hκ o ho σ (xs ((nI I) + 1).toNatClampNeg) (xs ((nI I) + 2).toNatClampNeg) z _ R9 σ' kk0 z' eX eW) (vx_cwSW 4 S.2.2.2.2 gL_law_L_rename rfl rfl rfl (by decide +kernel) ⟨Nat.le_of_ble_eq_true rfl, Nat.le_of_ble_eq_true rfl⟩) (r_preW C hL hS) rfl rfl hl.1 rfl (lv_room (Nat.le_of_ble_eq_true rfl)) dL_law_389 ⟨(show cells + 3 ≤ 601024 by omega), (show slots + 18 ≤ 7293034 by omega)⟩) (fun H locs hL hS => ?_)
  refine lv_istore (lv' := [(5, .int kk0), (4, .int (nI I)), (3, .ref o), (2, .ref (κm 0)), (1, .ref (κ 0)), (0, .ref b)]) hx hb dL_law_392 hl (by decide) rfl (fun ls hl => ?_)
  refine lv_aload_n hx hb dL_law_394 rfl (lv_at hl 3 rfl) ?_
  refine lv_aload_n hx hb dL_law_395 rfl (lv_at hl 5 rfl) ?_
  refine lv_iload hx hb dL_law_396 (lv_at hl 1 rfl) ?_
  refine lv_iconst (v := 1) hx hb dL_law_398 (by decide) ?_
  refine lv_iadd hx hb dL_law_399 ?_
  refine va_sld hx hb hsc hbl hbA hS (sc_in (k := 1) hI hLm (by decide)) dL_law_400 ?_
  refine lv_aload_n hx hb dL_law_401 rfl (lv_at hl 5 rfl) ?_
  refine lv_iload hx hb dL_law_402 (lv_at hl 1 rfl) ?_
  refine lv_iconst (v := 2) hx hb dL_law_404 (by decide) ?_
  refine lv_iadd hx hb dL_law_405 ?_
  refine va_sld hx hb hsc hbl hbA hS (sc_in (k := 2) hI hLm (by decide)) dL_law_406 ?_
  refine r_modi C hL hS (va_runV (As := [.int (xs ((nI I) + 1).toNatClampNeg), .int (xs ((nI I) + 2).toNatClampNeg)]) (rest := []) S (met_X4_rename l D cI cII κm hm τ (xs ((nI I) + 1).toNatClampNeg) (xs ((nI I) + 2).toNatClampNeg) v τ' eM) (cwV 2 S.2.2.2.2 gL_law_X4_rename rfl rfl rfl (by decide +kernel) ⟨Nat.le_of_ble_eq_true rfl, Nat.le_of_ble_eq_true rfl⟩) (g_preV (N := 12) (T := TX4) hK hL.2.1 (Nat.le_refl _) (by decide) rfl rfl) rfl rfl hl.1 rfl (lv_room (Nat.le_of_ble_eq_true rfl)) dL_law_407 ⟨(show cells + 3 + 0 ≤ 601024 by omega), (show slots + 18 + 0 ≤ 7293034 by omega)⟩) (fun H locs hL hS => ?_)
  refine lv_istore (lv' := [(6, .int v), (5, .int kk0), (4, .int (nI I)), (3, .ref o), (2, .ref (κm 0)), (1, .ref (κ 0)), (0, .ref b)]) hx hb dL_law_410 hl (by decide) rfl (fun ls hl => ?_)
  refine lv_aload_n hx hb dL_law_412 rfl (lv_at hl 4 rfl) ?_
  refine r_modi C hL hS (va_runV (As := []) (rest := []) S (met_X4_thrown l D cI cII κm hm τ' kk0 (show fn_X4_thrown τ' = some kk0 from congrArg some hkk)) (cwV 0 S.2.2.2.2 gL_law_X4_thrown rfl rfl rfl (by decide +kernel) ⟨Nat.le_of_ble_eq_true rfl, Nat.le_of_ble_eq_true rfl⟩) (g_preV (N := 12) (T := TX4) hK hL.2.1 (Nat.le_refl _) (by decide) rfl rfl) rfl rfl hl.1 rfl (lv_room (Nat.le_of_ble_eq_true rfl)) dL_law_413 ⟨(show cells + 3 + 0 ≤ 601024 by omega), (show slots + 18 + 0 ≤ 7293034 by omega)⟩) (fun H locs hL hS => ?_)
  refine lv_iload hx hb dL_law_416 (lv_at hl 1 rfl) ?_
  refine lv_icmp_eq (tgt := 423) hx hb dL_law_418 (by decide) (fun _ => ?_) (fun hh => absurd rfl hh)
  refine lv_iload hx hb dL_law_423 (lv_at hl 1 rfl) ?_
  refine lv_if_ne (tgt := 440) hx hb dL_law_425 (by decide) (fun ck => ?_) (fun ck => ?_)
  · skip
    refine lv_goto (tgt := 1630) hx hb dL_law_440 (by decide) ?_
    refine W.widen (k := cells + 4) (n := slots + 32) (by omega) (by omega) ?_
    exact kk _ _ _ _ _ _ _ _ _ hT' h' g' hL hS (lv_sub hl [2, 3, 4, 5, 6] rfl)
  · have hz := hz ck
    refine lv_aload_n hx hb dL_law_428 rfl (lv_at hl 3 rfl) ?_
    refine lv_iconst (v := 0) hx hb dL_law_429 (by decide) ?_
    refine r_lald C hL dL_law_430 ?_
    refine lv_iload hx hb dL_law_431 (lv_at hl 0 rfl) ?_
    refine lv_i2l (v := v.toInt64) hx hb dL_law_433 rfl ?_
    rw [show z' = v.toInt64 from hz]
    refine lv_lcmp0 hx hb dL_law_434 ?_
    refine lv_if_eq (tgt := 440) hx hb dL_law_435 (by decide) (fun _ => ?_) (fun hh => absurd rfl hh)
    refine lv_goto (tgt := 1630) hx hb dL_law_440 (by decide) ?_
    refine W.widen (k := cells + 4) (n := slots + 32) (by omega) (by omega) ?_
    exact kk _ _ _ _ _ _ _ _ _ hT' h' g' hL hS (lv_sub hl [2, 3, 4, 5, 6] rfl)

set_option maxRecDepth 100000 in
set_option maxHeartbeats 4000000 in
theorem case_4 {p : Program} {l : Launch} {e : Env} {s : State} {m : MethodId} {args : Array Value} {below : List Frame} {meth : Method} {c : Code} {H : Heap} {locs : List Loc} {cells slots : Nat} {Q : State → Prop} {ls : Array Slot} {D : va_G} {κ κm : Nat → Nat} {cI cII cJ : ClassId} {o b L I n : Nat} {xs : Nat → Int32} {σ τ : SX} {z : Int64} {T : TT} {mk : Option Nat} (C : LawC p l s m args c D cI cII cJ κ κm o b L xs) (hI : I + 4 ≤ L) (hLm : L ≤ 2048) (hc : cells + 4 ≤ 601024) (hs : slots + 32 ≤ 7293034) (hT : Sys n T) (h : XI σ n T mk) (g : MI τ n T mk) (hL : LSt D cI cII cJ κ κm o σ τ z H) (hS : va_S (AL s) s.heap H locs) (hl : lv_has ls 9 [(4, .int (nI I)), (3, .ref o), (2, .ref (κm 0)), (1, .ref (κ 0)), (0, .ref b)])
    (kk : ∀ (σ τ : SX) (z : Int64) (n : Nat) (T : TT) (mk : Option Nat) (H : Heap) (locs : List Loc) (ls : Array Slot), Sys n T → XI σ n T mk → MI τ n T mk → LSt D cI cII cJ κ κm o σ τ z H → va_S (AL s) s.heap H locs → lv_has ls 9 [(4, .int (nI I)), (3, .ref o), (2, .ref (κm 0)), (1, .ref (κ 0)), (0, .ref b)] → W p l e room_1 s m args below meth c H locs (cells + 4) (slots + 32) Q (F0 m 1630 ls [])) :
    W p l e room_1 s m args below meth c H locs cells slots Q (F0 m 443 ls []) := by
  obtain ⟨S, hst, hK, hX, hZ, hJ, hN, hκ, hm, hA, hAm, hAo, hd, ho, hmo, hsc, hbl⟩ := id C
  have hbA : ¬ AL s b := Nat.not_le.mpr hbl
  obtain ⟨hx, hb, hml, hown, hts⟩ := id S
  refine lv_aload_n hx hb dL_law_443 rfl (lv_at hl 3 rfl) ?_
  obtain ⟨v, τ', eX, eM, g'⟩ := sim_stateCount hT h g
  refine r_clsi C hL hS (va_runV (As := []) (rest := []) S (met_X3_stateCount l D cI cII κ hκ σ v eX) (cwV 0 S.2.2.2.2 gL_law_X3_stateCount rfl rfl rfl (by decide +kernel) ⟨Nat.le_of_ble_eq_true rfl, Nat.le_of_ble_eq_true rfl⟩) (g_preV (N := 3) (T := TX3) hK hL.1 (Nat.le_refl _) (by decide) rfl rfl) rfl rfl hl.1 rfl (lv_room (Nat.le_of_ble_eq_true rfl)) dL_law_444 ⟨(show cells + 0 ≤ 601024 by omega), (show slots + 0 ≤ 7293034 by omega)⟩) (fun H locs hL hS => ?_)
  refine lv_aload_n hx hb dL_law_447 rfl (lv_at hl 2 rfl) ?_
  refine r_modi C hL hS (va_runV (As := []) (rest := [.int v]) S (met_X4_stateCount l D cI cII κm hm τ v τ' eM) (cwV 0 S.2.2.2.2 gL_law_X4_stateCount rfl rfl rfl (by decide +kernel) ⟨Nat.le_of_ble_eq_true rfl, Nat.le_of_ble_eq_true rfl⟩) (g_preV (N := 12) (T := TX4) hK hL.2.1 (Nat.le_refl _) (by decide) rfl rfl) rfl rfl hl.1 rfl (lv_room (Nat.le_of_ble_eq_true rfl)) dL_law_448 ⟨(show cells + 0 ≤ 601024 by omega), (show slots + 0 ≤ 7293034 by omega)⟩) (fun H locs hL hS => ?_)
  refine lv_icmp_eq (tgt := 1630) hx hb dL_law_451 (by decide) (fun _ => ?_) (fun hh => absurd rfl hh)
  refine W.widen (k := cells + 4) (n := slots + 32) (by omega) (by omega) ?_
  exact kk _ _ _ _ _ _ _ _ _ hT h g' hL hS (lv_sub hl [0, 1, 2, 3, 4] rfl)

set_option maxRecDepth 100000 in
set_option maxHeartbeats 4000000 in
theorem case_5 {p : Program} {l : Launch} {e : Env} {s : State} {m : MethodId} {args : Array Value} {below : List Frame} {meth : Method} {c : Code} {H : Heap} {locs : List Loc} {cells slots : Nat} {Q : State → Prop} {ls : Array Slot} {D : va_G} {κ κm : Nat → Nat} {cI cII cJ : ClassId} {o b L I n : Nat} {xs : Nat → Int32} {σ τ : SX} {z : Int64} {T : TT} {mk : Option Nat} (C : LawC p l s m args c D cI cII cJ κ κm o b L xs) (hI : I + 4 ≤ L) (hLm : L ≤ 2048) (hc : cells + 4 ≤ 601024) (hs : slots + 32 ≤ 7293034) (hT : Sys n T) (h : XI σ n T mk) (g : MI τ n T mk) (hL : LSt D cI cII cJ κ κm o σ τ z H) (hS : va_S (AL s) s.heap H locs) (hl : lv_has ls 9 [(4, .int (nI I)), (3, .ref o), (2, .ref (κm 0)), (1, .ref (κ 0)), (0, .ref b)])
    (kk : ∀ (σ τ : SX) (z : Int64) (n : Nat) (T : TT) (mk : Option Nat) (H : Heap) (locs : List Loc) (ls : Array Slot), Sys n T → XI σ n T mk → MI τ n T mk → LSt D cI cII cJ κ κm o σ τ z H → va_S (AL s) s.heap H locs → lv_has ls 9 [(4, .int (nI I)), (3, .ref o), (2, .ref (κm 0)), (1, .ref (κ 0)), (0, .ref b)] → W p l e room_1 s m args below meth c H locs (cells + 4) (slots + 32) Q (F0 m 1630 ls [])) :
    W p l e room_1 s m args below meth c H locs cells slots Q (F0 m 456 ls []) := by
  obtain ⟨S, hst, hK, hX, hZ, hJ, hN, hκ, hm, hA, hAm, hAo, hd, ho, hmo, hsc, hbl⟩ := id C
  have hbA : ¬ AL s b := Nat.not_le.mpr hbl
  obtain ⟨hx, hb, hml, hown, hts⟩ := id S
  refine lv_aload_n hx hb dL_law_456 rfl (lv_at hl 3 rfl) ?_
  refine lv_aload_n hx hb dL_law_457 rfl (lv_at hl 4 rfl) ?_
  refine lv_iload hx hb dL_law_458 (lv_at hl 0 rfl) ?_
  refine lv_iconst (v := 1) hx hb dL_law_460 (by decide) ?_
  refine lv_iadd hx hb dL_law_461 ?_
  refine va_sld hx hb hsc hbl hbA hS (sc_in (k := 1) hI hLm (by decide)) dL_law_462 ?_
  refine lv_aload_n hx hb dL_law_463 rfl (lv_at hl 4 rfl) ?_
  refine lv_iload hx hb dL_law_464 (lv_at hl 0 rfl) ?_
  refine lv_iconst (v := 2) hx hb dL_law_466 (by decide) ?_
  refine lv_iadd hx hb dL_law_467 ?_
  refine va_sld hx hb hsc hbl hbA hS (sc_in (k := 2) hI hLm (by decide)) dL_law_468 ?_
  refine lv_aload_n hx hb dL_law_469 rfl (lv_at hl 1 rfl) ?_
  obtain ⟨R9, σ', kk0, z', v, τ', n', T', mk', eX, eW, eM, hT', h', g', hkk, hz⟩ := sim_target (z := z) hT h g (xs ((nI I) + 1).toNatClampNeg) (xs ((nI I) + 2).toNatClampNeg)
  refine r_wrap C hL hS (vx_runSX (As := [.ref (κ 0), .int (xs ((nI I) + 1).toNatClampNeg), .int (xs ((nI I) + 2).toNatClampNeg), .ref o]) (rest := []) S (lw_target l hst D cI cII cJ κ hκ o ho σ (xs ((nI I) + 1).toNatClampNeg) (xs ((nI I) + 2).toNatClampNeg) z _ R9 σ' kk0 z' eX eW) (vx_cwSW 4 S.2.2.2.2 gL_law_L_target rfl rfl rfl (by decide +kernel) ⟨Nat.le_of_ble_eq_true rfl, Nat.le_of_ble_eq_true rfl⟩) (r_preW C hL hS) rfl rfl hl.1 rfl (lv_room (Nat.le_of_ble_eq_true rfl)) dL_law_470 ⟨(show cells + 2 ≤ 601024 by omega), (show slots + 12 ≤ 7293034 by omega)⟩) (fun H locs hL hS => ?_)
  refine lv_istore (lv' := [(5, .int kk0), (4, .int (nI I)), (3, .ref o), (2, .ref (κm 0)), (1, .ref (κ 0)), (0, .ref b)]) hx hb dL_law_473 hl (by decide) rfl (fun ls hl => ?_)
  refine lv_aload_n hx hb dL_law_475 rfl (lv_at hl 3 rfl) ?_
  refine lv_aload_n hx hb dL_law_476 rfl (lv_at hl 5 rfl) ?_
  refine lv_iload hx hb dL_law_477 (lv_at hl 1 rfl) ?_
  refine lv_iconst (v := 1) hx hb dL_law_479 (by decide) ?_
  refine lv_iadd hx hb dL_law_480 ?_
  refine va_sld hx hb hsc hbl hbA hS (sc_in (k := 1) hI hLm (by decide)) dL_law_481 ?_
  refine lv_aload_n hx hb dL_law_482 rfl (lv_at hl 5 rfl) ?_
  refine lv_iload hx hb dL_law_483 (lv_at hl 1 rfl) ?_
  refine lv_iconst (v := 2) hx hb dL_law_485 (by decide) ?_
  refine lv_iadd hx hb dL_law_486 ?_
  refine va_sld hx hb hsc hbl hbA hS (sc_in (k := 2) hI hLm (by decide)) dL_law_487 ?_
  refine r_modi C hL hS (va_runV (As := [.int (xs ((nI I) + 1).toNatClampNeg), .int (xs ((nI I) + 2).toNatClampNeg)]) (rest := []) S (met_X4_target l D cI cII κm hm τ (xs ((nI I) + 1).toNatClampNeg) (xs ((nI I) + 2).toNatClampNeg) v τ' eM) (cwV 2 S.2.2.2.2 gL_law_X4_target rfl rfl rfl (by decide +kernel) ⟨Nat.le_of_ble_eq_true rfl, Nat.le_of_ble_eq_true rfl⟩) (g_preV (N := 12) (T := TX4) hK hL.2.1 (Nat.le_refl _) (by decide) rfl rfl) rfl rfl hl.1 rfl (lv_room (Nat.le_of_ble_eq_true rfl)) dL_law_488 ⟨(show cells + 2 + 0 ≤ 601024 by omega), (show slots + 12 + 0 ≤ 7293034 by omega)⟩) (fun H locs hL hS => ?_)
  refine lv_istore (lv' := [(6, .int v), (5, .int kk0), (4, .int (nI I)), (3, .ref o), (2, .ref (κm 0)), (1, .ref (κ 0)), (0, .ref b)]) hx hb dL_law_491 hl (by decide) rfl (fun ls hl => ?_)
  refine lv_aload_n hx hb dL_law_493 rfl (lv_at hl 4 rfl) ?_
  refine r_modi C hL hS (va_runV (As := []) (rest := []) S (met_X4_thrown l D cI cII κm hm τ' kk0 (show fn_X4_thrown τ' = some kk0 from congrArg some hkk)) (cwV 0 S.2.2.2.2 gL_law_X4_thrown rfl rfl rfl (by decide +kernel) ⟨Nat.le_of_ble_eq_true rfl, Nat.le_of_ble_eq_true rfl⟩) (g_preV (N := 12) (T := TX4) hK hL.2.1 (Nat.le_refl _) (by decide) rfl rfl) rfl rfl hl.1 rfl (lv_room (Nat.le_of_ble_eq_true rfl)) dL_law_494 ⟨(show cells + 2 + 0 ≤ 601024 by omega), (show slots + 12 + 0 ≤ 7293034 by omega)⟩) (fun H locs hL hS => ?_)
  refine lv_iload hx hb dL_law_497 (lv_at hl 1 rfl) ?_
  refine lv_icmp_eq (tgt := 504) hx hb dL_law_499 (by decide) (fun _ => ?_) (fun hh => absurd rfl hh)
  refine lv_iload hx hb dL_law_504 (lv_at hl 1 rfl) ?_
  refine lv_if_ne (tgt := 521) hx hb dL_law_506 (by decide) (fun ck => ?_) (fun ck => ?_)
  · skip
    refine lv_goto (tgt := 1630) hx hb dL_law_521 (by decide) ?_
    refine W.widen (k := cells + 4) (n := slots + 32) (by omega) (by omega) ?_
    exact kk _ _ _ _ _ _ _ _ _ hT' h' g' hL hS (lv_sub hl [2, 3, 4, 5, 6] rfl)
  · have hz := hz ck
    refine lv_aload_n hx hb dL_law_509 rfl (lv_at hl 3 rfl) ?_
    refine lv_iconst (v := 0) hx hb dL_law_510 (by decide) ?_
    refine r_lald C hL dL_law_511 ?_
    refine lv_iload hx hb dL_law_512 (lv_at hl 0 rfl) ?_
    refine lv_i2l (v := v.toInt64) hx hb dL_law_514 rfl ?_
    rw [show z' = v.toInt64 from hz]
    refine lv_lcmp0 hx hb dL_law_515 ?_
    refine lv_if_eq (tgt := 521) hx hb dL_law_516 (by decide) (fun _ => ?_) (fun hh => absurd rfl hh)
    refine lv_goto (tgt := 1630) hx hb dL_law_521 (by decide) ?_
    refine W.widen (k := cells + 4) (n := slots + 32) (by omega) (by omega) ?_
    exact kk _ _ _ _ _ _ _ _ _ hT' h' g' hL hS (lv_sub hl [2, 3, 4, 5, 6] rfl)

set_option maxRecDepth 100000 in
set_option maxHeartbeats 4000000 in
theorem case_6 {p : Program} {l : Launch} {e : Env} {s : State} {m : MethodId} {args : Array Value} {below : List Frame} {meth : Method} {c : Code} {H : Heap} {locs : List Loc} {cells slots : Nat} {Q : State → Prop} {ls : Array Slot} {D : va_G} {κ κm : Nat → Nat} {cI cII cJ : ClassId} {o b L I n : Nat} {xs : Nat → Int32} {σ τ : SX} {z : Int64} {T : TT} {mk : Option Nat} (C : LawC p l s m args c D cI cII cJ κ κm o b L xs) (hI : I + 4 ≤ L) (hLm : L ≤ 2048) (hc : cells + 4 ≤ 601024) (hs : slots + 32 ≤ 7293034) (hT : Sys n T) (h : XI σ n T mk) (g : MI τ n T mk) (hL : LSt D cI cII cJ κ κm o σ τ z H) (hS : va_S (AL s) s.heap H locs) (hl : lv_has ls 9 [(4, .int (nI I)), (3, .ref o), (2, .ref (κm 0)), (1, .ref (κ 0)), (0, .ref b)])
    (kk : ∀ (σ τ : SX) (z : Int64) (n : Nat) (T : TT) (mk : Option Nat) (H : Heap) (locs : List Loc) (ls : Array Slot), Sys n T → XI σ n T mk → MI τ n T mk → LSt D cI cII cJ κ κm o σ τ z H → va_S (AL s) s.heap H locs → lv_has ls 9 [(4, .int (nI I)), (3, .ref o), (2, .ref (κm 0)), (1, .ref (κ 0)), (0, .ref b)] → W p l e room_1 s m args below meth c H locs (cells + 4) (slots + 32) Q (F0 m 1630 ls [])) :
    W p l e room_1 s m args below meth c H locs cells slots Q (F0 m 524 ls []) := by
  obtain ⟨S, hst, hK, hX, hZ, hJ, hN, hκ, hm, hA, hAm, hAo, hd, ho, hmo, hsc, hbl⟩ := id C
  have hbA : ¬ AL s b := Nat.not_le.mpr hbl
  obtain ⟨hx, hb, hml, hown, hts⟩ := id S
  refine lv_aload_n hx hb dL_law_524 rfl (lv_at hl 3 rfl) ?_
  refine lv_aload_n hx hb dL_law_525 rfl (lv_at hl 4 rfl) ?_
  refine lv_iload hx hb dL_law_526 (lv_at hl 0 rfl) ?_
  refine lv_iconst (v := 1) hx hb dL_law_528 (by decide) ?_
  refine lv_iadd hx hb dL_law_529 ?_
  refine va_sld hx hb hsc hbl hbA hS (sc_in (k := 1) hI hLm (by decide)) dL_law_530 ?_
  refine lv_aload_n hx hb dL_law_531 rfl (lv_at hl 1 rfl) ?_
  obtain ⟨R9, σ', kk0, z', v, τ', n', T', mk', eX, eW, eM, hT', h', g', hkk, hz⟩ := sim_enabled (z := z) hT h g (xs ((nI I) + 1).toNatClampNeg)
  refine r_wrap C hL hS (vx_runSX (As := [.ref (κ 0), .int (xs ((nI I) + 1).toNatClampNeg), .ref o]) (rest := []) S (lw_enabled l hst D cI cII cJ κ hκ o ho σ (xs ((nI I) + 1).toNatClampNeg) z _ R9 σ' kk0 z' eX eW) (vx_cwSW 3 S.2.2.2.2 gL_law_L_enabled rfl rfl rfl (by decide +kernel) ⟨Nat.le_of_ble_eq_true rfl, Nat.le_of_ble_eq_true rfl⟩) (r_preW C hL hS) rfl rfl hl.1 rfl (lv_room (Nat.le_of_ble_eq_true rfl)) dL_law_532 ⟨(show cells + 1 ≤ 601024 by omega), (show slots + 6 ≤ 7293034 by omega)⟩) (fun H locs hL hS => ?_)
  refine lv_istore (lv' := [(5, .int kk0), (4, .int (nI I)), (3, .ref o), (2, .ref (κm 0)), (1, .ref (κ 0)), (0, .ref b)]) hx hb dL_law_535 hl (by decide) rfl (fun ls hl => ?_)
  refine lv_aload_n hx hb dL_law_537 rfl (lv_at hl 3 rfl) ?_
  refine lv_aload_n hx hb dL_law_538 rfl (lv_at hl 5 rfl) ?_
  refine lv_iload hx hb dL_law_539 (lv_at hl 1 rfl) ?_
  refine lv_iconst (v := 1) hx hb dL_law_541 (by decide) ?_
  refine lv_iadd hx hb dL_law_542 ?_
  refine va_sld hx hb hsc hbl hbA hS (sc_in (k := 1) hI hLm (by decide)) dL_law_543 ?_
  refine r_modi C hL hS (va_runV (As := [.int (xs ((nI I) + 1).toNatClampNeg)]) (rest := []) S (met_X4_enabled l D cI cII κm hm τ (xs ((nI I) + 1).toNatClampNeg) v τ' eM) (cwV 1 S.2.2.2.2 gL_law_X4_enabled rfl rfl rfl (by decide +kernel) ⟨Nat.le_of_ble_eq_true rfl, Nat.le_of_ble_eq_true rfl⟩) (g_preV (N := 12) (T := TX4) hK hL.2.1 (Nat.le_refl _) (by decide) rfl rfl) rfl rfl hl.1 rfl (lv_room (Nat.le_of_ble_eq_true rfl)) dL_law_544 ⟨(show cells + 1 + 0 ≤ 601024 by omega), (show slots + 6 + 0 ≤ 7293034 by omega)⟩) (fun H locs hL hS => ?_)
  refine lv_istore (lv' := [(6, .int v), (5, .int kk0), (4, .int (nI I)), (3, .ref o), (2, .ref (κm 0)), (1, .ref (κ 0)), (0, .ref b)]) hx hb dL_law_547 hl (by decide) rfl (fun ls hl => ?_)
  refine lv_aload_n hx hb dL_law_549 rfl (lv_at hl 4 rfl) ?_
  refine r_modi C hL hS (va_runV (As := []) (rest := []) S (met_X4_thrown l D cI cII κm hm τ' kk0 (show fn_X4_thrown τ' = some kk0 from congrArg some hkk)) (cwV 0 S.2.2.2.2 gL_law_X4_thrown rfl rfl rfl (by decide +kernel) ⟨Nat.le_of_ble_eq_true rfl, Nat.le_of_ble_eq_true rfl⟩) (g_preV (N := 12) (T := TX4) hK hL.2.1 (Nat.le_refl _) (by decide) rfl rfl) rfl rfl hl.1 rfl (lv_room (Nat.le_of_ble_eq_true rfl)) dL_law_550 ⟨(show cells + 1 + 0 ≤ 601024 by omega), (show slots + 6 + 0 ≤ 7293034 by omega)⟩) (fun H locs hL hS => ?_)
  refine lv_iload hx hb dL_law_553 (lv_at hl 1 rfl) ?_
  refine lv_icmp_eq (tgt := 560) hx hb dL_law_555 (by decide) (fun _ => ?_) (fun hh => absurd rfl hh)
  refine lv_iload hx hb dL_law_560 (lv_at hl 1 rfl) ?_
  refine lv_if_ne (tgt := 577) hx hb dL_law_562 (by decide) (fun ck => ?_) (fun ck => ?_)
  · skip
    refine lv_goto (tgt := 1630) hx hb dL_law_577 (by decide) ?_
    refine W.widen (k := cells + 4) (n := slots + 32) (by omega) (by omega) ?_
    exact kk _ _ _ _ _ _ _ _ _ hT' h' g' hL hS (lv_sub hl [2, 3, 4, 5, 6] rfl)
  · have hz := hz ck
    refine lv_aload_n hx hb dL_law_565 rfl (lv_at hl 3 rfl) ?_
    refine lv_iconst (v := 0) hx hb dL_law_566 (by decide) ?_
    refine r_lald C hL dL_law_567 ?_
    refine lv_iload hx hb dL_law_568 (lv_at hl 0 rfl) ?_
    refine lv_i2l (v := v.toInt64) hx hb dL_law_570 rfl ?_
    rw [show z' = v.toInt64 from hz]
    refine lv_lcmp0 hx hb dL_law_571 ?_
    refine lv_if_eq (tgt := 577) hx hb dL_law_572 (by decide) (fun _ => ?_) (fun hh => absurd rfl hh)
    refine lv_goto (tgt := 1630) hx hb dL_law_577 (by decide) ?_
    refine W.widen (k := cells + 4) (n := slots + 32) (by omega) (by omega) ?_
    exact kk _ _ _ _ _ _ _ _ _ hT' h' g' hL hS (lv_sub hl [2, 3, 4, 5, 6] rfl)

set_option maxRecDepth 100000 in
set_option maxHeartbeats 4000000 in
theorem case_7 {p : Program} {l : Launch} {e : Env} {s : State} {m : MethodId} {args : Array Value} {below : List Frame} {meth : Method} {c : Code} {H : Heap} {locs : List Loc} {cells slots : Nat} {Q : State → Prop} {ls : Array Slot} {D : va_G} {κ κm : Nat → Nat} {cI cII cJ : ClassId} {o b L I n : Nat} {xs : Nat → Int32} {σ τ : SX} {z : Int64} {T : TT} {mk : Option Nat} (C : LawC p l s m args c D cI cII cJ κ κm o b L xs) (hI : I + 4 ≤ L) (hLm : L ≤ 2048) (hc : cells + 4 ≤ 601024) (hs : slots + 32 ≤ 7293034) (hT : Sys n T) (h : XI σ n T mk) (g : MI τ n T mk) (hL : LSt D cI cII cJ κ κm o σ τ z H) (hS : va_S (AL s) s.heap H locs) (hl : lv_has ls 9 [(4, .int (nI I)), (3, .ref o), (2, .ref (κm 0)), (1, .ref (κ 0)), (0, .ref b)])
    (kk : ∀ (σ τ : SX) (z : Int64) (n : Nat) (T : TT) (mk : Option Nat) (H : Heap) (locs : List Loc) (ls : Array Slot), Sys n T → XI σ n T mk → MI τ n T mk → LSt D cI cII cJ κ κm o σ τ z H → va_S (AL s) s.heap H locs → lv_has ls 9 [(4, .int (nI I)), (3, .ref o), (2, .ref (κm 0)), (1, .ref (κ 0)), (0, .ref b)] → W p l e room_1 s m args below meth c H locs (cells + 4) (slots + 32) Q (F0 m 1630 ls [])) :
    W p l e room_1 s m args below meth c H locs cells slots Q (F0 m 580 ls []) := by
  obtain ⟨S, hst, hK, hX, hZ, hJ, hN, hκ, hm, hA, hAm, hAo, hd, ho, hmo, hsc, hbl⟩ := id C
  have hbA : ¬ AL s b := Nat.not_le.mpr hbl
  obtain ⟨hx, hb, hml, hown, hts⟩ := id S
  refine lv_aload_n hx hb dL_law_580 rfl (lv_at hl 3 rfl) ?_
  obtain ⟨v, τ', eX, eM, g'⟩ := sim_reached hT h g
  refine r_clsi C hL hS (va_runV (As := []) (rest := []) S (met_X3_reached l D cI cII κ hκ σ v eX) (cwV 0 S.2.2.2.2 gL_law_X3_reached rfl rfl rfl (by decide +kernel) ⟨Nat.le_of_ble_eq_true rfl, Nat.le_of_ble_eq_true rfl⟩) (g_preV (N := 3) (T := TX3) hK hL.1 (Nat.le_refl _) (by decide) rfl rfl) rfl rfl hl.1 rfl (lv_room (Nat.le_of_ble_eq_true rfl)) dL_law_581 ⟨(show cells + 0 ≤ 601024 by omega), (show slots + 0 ≤ 7293034 by omega)⟩) (fun H locs hL hS => ?_)
  refine lv_aload_n hx hb dL_law_584 rfl (lv_at hl 2 rfl) ?_
  refine r_modi C hL hS (va_runV (As := []) (rest := [.int v]) S (met_X4_reached l D cI cII κm hm τ v τ' eM) (cwV 0 S.2.2.2.2 gL_law_X4_reached rfl rfl rfl (by decide +kernel) ⟨Nat.le_of_ble_eq_true rfl, Nat.le_of_ble_eq_true rfl⟩) (g_preV (N := 12) (T := TX4) hK hL.2.1 (Nat.le_refl _) (by decide) rfl rfl) rfl rfl hl.1 rfl (lv_room (Nat.le_of_ble_eq_true rfl)) dL_law_585 ⟨(show cells + 0 ≤ 601024 by omega), (show slots + 0 ≤ 7293034 by omega)⟩) (fun H locs hL hS => ?_)
  refine lv_icmp_eq (tgt := 1630) hx hb dL_law_588 (by decide) (fun _ => ?_) (fun hh => absurd rfl hh)
  refine W.widen (k := cells + 4) (n := slots + 32) (by omega) (by omega) ?_
  exact kk _ _ _ _ _ _ _ _ _ hT h g' hL hS (lv_sub hl [0, 1, 2, 3, 4] rfl)

