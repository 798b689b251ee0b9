/-! by wip/p34/gen.py: walks: the machine computes the pure functions -/
set_option maxRecDepth 100000 in
set_option maxHeartbeats 4000000 in
theorem met_X3_fidelity (l : Launch) (D : va_G) (cI cII : ClassId) (κ : Nat → Nat) (hκ : Inj 31 κ) (σ : SX)  (r : UInt64) (σ' : SX) (hf : fn_X3_fidelity σ  = some (r, σ')) : Met l yX3_fidelity wsX3_fidelity ({ frames := 6, cells := 0, slots := 0, locals := 136 } : Room) (va_Pc [.ref (κ 0)] (xP D cI cII κ σ)) (QD D cI cII 31 κ (xC cI cII κ σ') r) 0 0 (gA 31 κ) := by
  refine g_enter (cc := cX3_fidelity) (maxL := 3) (ret := (some .double)) (by decide) rfl (Nat.le_of_ble_eq_true rfl) ?_
  intro p e s m args below meth c ls S hr hlk _ hB hl
  have S : CallFix p m c cX3_fidelity 3 s args wsX3_fidelity RX3 := S
  obtain ⟨hP, hK⟩ := hB
  have hl : lv_has ls 3 [(0, .ref (κ 0))] := hl
  have hS : va_S (gA 31 κ) s.heap s.heap [] := va_S.rf
  have hA : ∀ k, k < 31 → gA 31 κ (κ k) := gA_in
  obtain ⟨hx, hb, hml, hown, hts⟩ := id S
  have hiX3 : ∀ w ∈ u_ws RX3 TX3 3, w ∈ wsX3_fidelity := by decide +kernel
  unfold fn_X3_fidelity at hf
  refine lv_aload_n hx hb dX3_fidelity_0 rfl (lv_at hl 0 rfl) ?_
  refine g_get (q := 0) (ci := 3) (k := 0) (ref := RX3) (C := RX3) (T := TX3) (N := 3) (index := 10) (v := .ref (κ 1)) S hK hP hiX3 (by decide) rfl rfl (by decide) rfl (by decide +kernel) rfl dX3_fidelity_1 ?_
  obtain ⟨v1, hq4, hf⟩ := obw hf
  refine g_calli (va_runV (As := []) (rest := []) S (met_X2_statePairs l D cI cII κ hκ σ v1 hq4) (cwV 0 S.2.2.2.2 gX3_fidelity_X2_statePairs rfl rfl rfl (by decide +kernel) ⟨Nat.le_of_ble_eq_true rfl, Nat.le_of_ble_eq_true rfl⟩) (g_preV (N := 5) (T := TX2) hK hP (Nat.le_refl _) (by decide) rfl rfl) rfl rfl hl.1 rfl (lv_room (Nat.le_of_ble_eq_true rfl)) dX3_fidelity_4 ⟨Nat.le_of_ble_eq_true rfl, Nat.le_of_ble_eq_true rfl⟩) (Nat.le_refl _) hκ hA hP hS (fun j h1 h2 => absurd h2 (Nat.not_lt.mpr h1)) (fun H locs hP hS => ?_)
  refine lv_aload_n hx hb dX3_fidelity_7 rfl (lv_at hl 0 rfl) ?_
  refine g_get (q := 0) (ci := 3) (k := 0) (ref := RX3) (C := RX3) (T := TX3) (N := 3) (index := 10) (v := .ref (κ 1)) S hK hP hiX3 (by decide) rfl rfl (by decide) rfl (by decide +kernel) rfl dX3_fidelity_8 ?_
  obtain ⟨v2, hq11, hf⟩ := obw hf
  refine g_calli (va_runV (As := []) (rest := [.int v1]) S (met_X2_stopPairs l D cI cII κ hκ σ v2 hq11) (cwV 0 S.2.2.2.2 gX3_fidelity_X2_stopPairs rfl rfl rfl (by decide +kernel) ⟨Nat.le_of_ble_eq_true rfl, Nat.le_of_ble_eq_true rfl⟩) (g_preV (N := 5) (T := TX2) hK hP (Nat.le_refl _) (by decide) rfl rfl) rfl rfl hl.1 rfl (lv_room (Nat.le_of_ble_eq_true rfl)) dX3_fidelity_11 ⟨Nat.le_of_ble_eq_true rfl, Nat.le_of_ble_eq_true rfl⟩) (Nat.le_refl _) hκ hA hP hS (fun j h1 h2 => absurd h2 (Nat.not_lt.mpr h1)) (fun H locs hP hS => ?_)
  refine lv_iadd hx hb dX3_fidelity_14 ?_
  obtain ⟨v3, ev3, hf⟩ := letb_w hf
  refine lv_nmi ev3 ?_
  refine lv_istore_n (lv' := [(1, .int v3), (0, .ref (κ 0))]) hx hb dX3_fidelity_15 rfl hl (by decide) rfl (fun ls hl => ?_)
  refine lv_iload_n hx hb dX3_fidelity_16 rfl (lv_at hl 0 rfl) ?_
  refine lv_if_ne (tgt := 22) hx hb dX3_fidelity_17 (by decide) (fun c17 => ?_) (fun c17 => ?_)
  · have hf := iteT c17 hf
    refine lv_aload_n hx hb dX3_fidelity_22 rfl (lv_at hl 1 rfl) ?_
    refine g_get (q := 0) (ci := 3) (k := 1) (ref := RX3) (C := RX3) (T := TX3) (N := 3) (index := 21) (v := .ref (κ 2)) S hK hP hiX3 (by decide) rfl rfl (by decide) rfl (by decide +kernel) rfl dX3_fidelity_23 ?_
    obtain ⟨v5, σ4, hq26, hf⟩ := bind2_w hf
    refine g_calli (va_runV (As := []) (rest := []) S (met_X1_pairsNotApart l D cI cII κ hκ σ v5 σ4 hq26) (cwV 0 S.2.2.2.2 gX3_fidelity_X1_pairsNotApart rfl rfl rfl (by decide +kernel) ⟨Nat.le_of_ble_eq_true rfl, Nat.le_of_ble_eq_true rfl⟩) (g_preV (N := 4) (T := TX1) hK hP (Nat.le_refl _) (by decide) rfl rfl) rfl rfl hl.1 rfl (lv_room (Nat.le_of_ble_eq_true rfl)) dX3_fidelity_26 ⟨Nat.le_of_ble_eq_true rfl, Nat.le_of_ble_eq_true rfl⟩) (Nat.le_refl _) hκ hA hP hS (fun j h1 h2 => absurd h2 (Nat.not_lt.mpr h1)) (fun H locs hP hS => ?_)
    refine lv_aload_n hx hb dX3_fidelity_29 rfl (lv_at hl 1 rfl) ?_
    refine g_get (q := 0) (ci := 3) (k := 1) (ref := RX3) (C := RX3) (T := TX3) (N := 3) (index := 21) (v := .ref (κ 2)) S hK hP hiX3 (by decide) rfl rfl (by decide) rfl (by decide +kernel) rfl dX3_fidelity_30 ?_
    obtain ⟨v7, σ6, hq33, hf⟩ := bind2_w hf
    refine g_calli (va_runV (As := []) (rest := [.int v5]) S (met_X1_pairsNotPrevented l D cI cII κ hκ σ4 v7 σ6 hq33) (cwV 0 S.2.2.2.2 gX3_fidelity_X1_pairsNotPrevented rfl rfl rfl (by decide +kernel) ⟨Nat.le_of_ble_eq_true rfl, Nat.le_of_ble_eq_true rfl⟩) (g_preV (N := 4) (T := TX1) hK hP (Nat.le_refl _) (by decide) rfl rfl) rfl rfl hl.1 rfl (lv_room (Nat.le_of_ble_eq_true rfl)) dX3_fidelity_33 ⟨Nat.le_of_ble_eq_true rfl, Nat.le_of_ble_eq_true rfl⟩) (Nat.le_refl _) hκ hA hP hS (fun j h1 h2 => absurd h2 (Nat.not_lt.mpr h1)) (fun H locs hP hS => ?_)
    refine lv_iadd hx hb dX3_fidelity_36 ?_
    obtain ⟨v8, ev8, hf⟩ := letb_w hf
    refine lv_nmi ev8 ?_
    refine lv_istore_n (lv' := [(2, .int v8), (1, .int v3), (0, .ref (κ 0))]) hx hb dX3_fidelity_37 rfl hl (by decide) rfl (fun ls hl => ?_)
    refine lv_dconst1 hx hb dX3_fidelity_38 ?_
    refine lv_iload_n hx hb dX3_fidelity_39 rfl (lv_at hl 0 rfl) ?_
    refine lv_i2d hx hb dX3_fidelity_40 ?_
    refine lv_iload_n hx hb dX3_fidelity_41 rfl (lv_at hl 1 rfl) ?_
    refine lv_i2d hx hb dX3_fidelity_42 ?_
    obtain ⟨v9, hv9, hf⟩ := obw hf
    refine lv_ddiv hx hb dX3_fidelity_43 (dz_w hv9).2 ?_
    rw [show FP.ddiv ((FP.i2d v8)) ((FP.i2d v3)) = v9 from (dz_w hv9).1]
    obtain ⟨v10, hv10, hf⟩ := obw hf
    refine lv_dsub hx hb dX3_fidelity_44 (dz_w hv10).2 ?_
    rw [show FP.dsub d1 v9 = v10 from (dz_w hv10).1]
    obtain ⟨h8, h9⟩ := Prod.mk.inj (Option.some.inj hf)
    subst h9
    exact g_dret S hr hlk hK hP hS h8 dX3_fidelity_45
  · have hf := iteN c17 hf
    refine lv_dconst1 hx hb dX3_fidelity_20 ?_
    obtain ⟨h8, h9⟩ := Prod.mk.inj (Option.some.inj hf)
    subst h9
    exact g_dret S hr hlk hK hP hS h8 dX3_fidelity_21
