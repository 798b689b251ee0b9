/-! by wip/whole/gen.py: walks: the machine computes the pure functions -/
set_option maxRecDepth 100000 in
set_option maxHeartbeats 4000000 in
theorem met_X3_fidelity (l : Launch) (D : va_G) (cI cII : ClassId) (κ : Nat → Nat) (hκ : Inj 31 κ) (σ : SX)  (r : UInt64) (σ' : SX) (hf : fn_X3_fidelity σ  = some (r, σ')) : Met l yX3_fidelity wsX3_fidelity ({ frames := 6, cells := 0, slots := 0, locals := 136 } : Room) (va_Pc [.ref (κ 0)] (xP D cI cII κ σ)) (QD D cI cII 31 κ (xC cI cII κ σ') r) 0 0 (gA 31 κ) := by
  refine g_enter (cc := cX3_fidelity) (maxL := 3) (ret := (some .double)) (by decide) rfl (Nat.le_of_ble_eq_true rfl) ?_
  intro p e s m args below meth c ls S hr hlk _ hB hl
  have S : CallFix p m c cX3_fidelity 3 s args wsX3_fidelity RX3 := S
  obtain ⟨hP, hK⟩ := hB
  have hl : lv_has ls 3 [(0, .ref (κ 0))] := hl
  have hS : va_S (gA 31 κ) s.heap s.heap [] := va_S.rf
  have hA : ∀ k, k < 31 → gA 31 κ (κ k) := gA_in
  obtain ⟨hx, hb, hml, hown, hts⟩ := id S
  have hiX3 : ∀ w ∈ u_ws RX3 TX3 3, w ∈ wsX3_fidelity := by decide +kernel
  unfold fn_X3_fidelity at hf
  refine lv_aload_n hx hb dX3_fidelity_0 rfl (lv_at hl 0 rfl) ?_
  refine g_get (q := 0) (ci := 3) (k := 0) (ref := RX3) (C := RX3) (T := TX3) (N := 3) (index := 10) (v := .ref (κ 1)) S hK hP hiX3 (by decide) rfl rfl (by decide) rfl (by decide +kernel) rfl dX3_fidelity_1 ?_
  obtain ⟨v1, hq4, hf⟩ := obw hf
  refine g_calli (va_runV (As := []) (rest := []) S (met_X2_statePairs l D cI cII κ hκ σ v1 hq4) (cwV 0 S.2.2.2.2 gX3_fidelity_X2_statePairs rfl rfl rfl (by decide +kernel) ⟨Nat.le_of_ble_eq_true rfl, Nat.le_of_ble_eq_true rfl⟩) (g_preV (N := 5) (T := TX2) hK hP (Nat.le_refl _) (by decide) rfl rfl) rfl rfl hl.1 rfl (lv_room (Nat.le_of_ble_eq_true rfl)) dX3_fidelity_4 ⟨Nat.le_of_ble_eq_true rfl, Nat.le_of_ble_eq_true rfl⟩) (Nat.le_refl _) hκ hA hP hS (fun j h1 h2 => absurd h2 (Nat.not_lt.mpr h1)) (fun H locs hP hS => ?_)
  refine lv_aload_n hx hb dX3_fidelity_7 rfl (lv_at hl 0 rfl) ?_
  refine g_get (q := 0) (ci := 3) (k := 0) (ref := RX3) (C := RX3) (T := TX3) (N := 3) (index := 10) (v := .ref (κ 1)) S hK hP hiX3 (by decide) rfl rfl (by decide) rfl (by decide +kernel) rfl dX3_fidelity_8 ?_
  obtain ⟨v2, hq11, hf⟩ := obw hf
  refine g_calli (va_runV (As := []) (rest := [.int v1]) S (met_X2_stopPairs l D cI cII κ hκ σ v2 hq11) (cwV 0 S.2.2.2.2 gX3_fidelity_X2_stopPairs rfl rfl rfl (by decide +kernel) ⟨Nat.le_of_ble_eq_true rfl, Nat.le_of_ble_eq_true rfl⟩) (g_preV (N := 5) (T := TX2) hK hP (Nat.le_refl _) (by decide) rfl rfl) rfl rfl hl.1 rfl (lv_room (Nat.le_of_ble_eq_true rfl)) dX3_fidelity_11 ⟨Nat.le_of_ble_eq_true rfl, Nat.le_of_ble_eq_true rfl⟩) (Nat.le_refl _) hκ hA hP hS (fun j h1 h2 => absurd h2 (Nat.not_lt.mpr h1)) (fun H locs hP hS => ?_)
  refine lv_iadd hx hb dX3_fidelity_14 ?_
  obtain ⟨v3, ev3, hf⟩ := letb_w hf
  refine lv_nmi ev3 ?_
  refine lv_istore_n (lv' := [(1, .int v3), (0, .ref (κ 0))]) hx hb dX3_fidelity_15 rfl hl (by decide) rfl (fun ls hl => ?_)
  refine lv_iload_n hx hb dX3_fidelity_16 rfl (lv_at hl 0 rfl) ?_
  refine lv_if_ne (tgt := 22) hx hb dX3_fidelity_17 (by decide) (fun c17 => ?_) (fun c17 => ?_)
  · have hf := iteT c17 hf
    refine lv_aload_n hx hb dX3_fidelity_22 rfl (lv_at hl 1 rfl) ?_
    refine g_get (q := 0) (ci := 3) (k := 1) (ref := RX3) (C := RX3) (T := TX3) (N := 3) (index := 21) (v := .ref (κ 2)) S hK hP hiX3 (by decide) rfl rfl (by decide) rfl (by decide +kernel) rfl dX3_fidelity_23 ?_
    obtain ⟨v5, σ4, hq26, hf⟩ := bind2_w hf
    refine g_calli (va_runV (As := []) (rest := []) S (met_X1_pairsNotApart l D cI cII κ hκ σ v5 σ4 hq26) (cwV 0 S.2.2.2.2 gX3_fidelity_X1_pairsNotApart rfl rfl rfl (by decide +kernel) ⟨Nat.le_of_ble_eq_true rfl, Nat.le_of_ble_eq_true rfl⟩) (g_preV (N := 4) (T := TX1) hK hP (Nat.le_refl _) (by decide) rfl rfl) rfl rfl hl.1 rfl (lv_room (Nat.le_of_ble_eq_true rfl)) dX3_fidelity_26 ⟨Nat.le_of_ble_eq_true rfl, Nat.le_of_ble_eq_true rfl⟩) (Nat.le_refl _) hκ hA hP hS (fun j h1 h2 => absurd h2 (Nat.not_lt.mpr h1)) (fun H locs hP hS => ?_)
    refine lv_aload_n hx hb dX3_fidelity_29 rfl (lv_at hl 1 rfl) ?_
    refine g_get (q := 0) (ci := 3) (k := 1) (ref := RX3) (C := RX3) (T := TX3) (N := 3) (index := 21) (v := .ref (κ 2)) S hK hP hiX3 (by decide) rfl rfl (by decide) rfl (by decide +kernel) rfl dX3_fidelity_30 ?_
    obtain ⟨v7, σ6, hq33, hf⟩ := bind2_w hf
    refine g_calli (va_runV (As := []) (rest := [.int v5]) S (met_X1_pairsNotPrevented l D cI cII κ hκ σ4 v7 σ6 hq33) (cwV 0 S.2.2.2.2 gX3_fidelity_X1_pairsNotPrevented rfl rfl rfl (by decide +kernel) ⟨Nat.le_of_ble_eq_true rfl, Nat.le_of_ble_eq_true rfl⟩) (g_preV (N := 4) (T := TX1) hK hP (Nat.le_refl _) (by decide) rfl rfl) rfl rfl hl.1 rfl (lv_room (Nat.le_of_ble_eq_true rfl)) dX3_fidelity_33 ⟨Nat.le_of_ble_eq_true rfl, Nat.le_of_ble_eq_true rfl⟩) (Nat.le_refl _) hκ hA hP hS (fun j h1 h2 => absurd h2 (Nat.not_lt.mpr h1)) (fun H locs hP hS => ?_)
    refine lv_iadd hx hb dX3_fidelity_36 ?_
    obtain ⟨v8, ev8, hf⟩ := letb_w hf
    refine lv_nmi ev8 ?_
    refine lv_istore_n (lv' := [(2, .int v8), (1, .int v3), (0, .ref (κ 0))]) hx hb dX3_fidelity_37 rfl hl (by decide) rfl (fun ls hl => ?_)
    refine lv_dconst1 hx hb dX3_fidelity_38 ?_
    refine lv_iload_n hx hb dX3_fidelity_39 rfl (lv_at hl 0 rfl) ?_
    refine lv_i2d hx hb dX3_fidelity_40 ?_
    refine lv_iload_n hx hb dX3_fidelity_41 rfl (lv_at hl 1 rfl) ?_
    refine lv_i2d hx hb dX3_fidelity_42 ?_
    obtain ⟨v9, hv9, hf⟩ := obw hf
    refine lv_ddiv hx hb dX3_fidelity_43 (dz_w hv9).2 ?_
    rw [show FP.ddiv ((FP.i2d v8)) ((FP.i2d v3)) = v9 from (dz_w hv9).1]
    obtain ⟨v10, hv10, hf⟩ := obw hf
    refine lv_dsub hx hb dX3_fidelity_44 (dz_w hv10).2 ?_
    rw [show FP.dsub d1 v9 = v10 from (dz_w hv10).1]
    obtain ⟨h8, h9⟩ := Prod.mk.inj (Option.some.inj hf)
    subst h9
    exact g_dret S hr hlk hK hP hS h8 dX3_fidelity_45
  · have hf := iteN c17 hf
    refine lv_dconst1 hx hb dX3_fidelity_20 ?_
    obtain ⟨h8, h9⟩ := Prod.mk.inj (Option.some.inj hf)
    subst h9
    exact g_dret S hr hlk hK hP hS h8 dX3_fidelity_21

set_option maxRecDepth 100000 in
set_option maxHeartbeats 4000000 in
theorem met_X4_fidelity (l : Launch) (D : va_G) (cI cII : ClassId) (κ : Nat → Nat) (hκ : Inj 5 κ) (σ : SX)  (r : UInt64) (σ' : SX) (hf : fn_X4_fidelity σ  = some (r, σ')) : Met l yX4_fidelity wsX4_fidelity ({ frames := 7, cells := 0, slots := 0, locals := 160 } : Room) (va_Pc [.ref (κ 0)] (mP D cI cII κ σ)) (QD D cI cII 5 κ (mC cI cII κ σ') r) 0 0 (gA 5 κ) := by
  refine g_enter (cc := cX4_fidelity) (maxL := 4) (ret := (some .double)) (by decide) rfl (Nat.le_of_ble_eq_true rfl) ?_
  intro p e s m args below meth c ls S hr hlk _ hB hl
  have S : CallFix p m c cX4_fidelity 4 s args wsX4_fidelity RX4 := S
  obtain ⟨hP, hK⟩ := hB
  have hl : lv_has ls 4 [(0, .ref (κ 0))] := hl
  have hS : va_S (gA 5 κ) s.heap s.heap [] := va_S.rf
  have hA : ∀ k, k < 5 → gA 5 κ (κ k) := gA_in
  obtain ⟨hx, hb, hml, hown, hts⟩ := id S
  have hiX4 : ∀ w ∈ u_ws RX4 TX4 12, w ∈ wsX4_fidelity := by decide +kernel
  unfold fn_X4_fidelity at hf
  refine lv_aload_n hx hb dX4_fidelity_0 rfl (lv_at hl 0 rfl) ?_
  refine lv_iconst (v := 0) hx hb dX4_fidelity_1 (by decide) ?_
  obtain ⟨σ1, eσ1, hf⟩ := letb_w hf
  refine g_put (q := 0) (ci := 4) (k := 0) (ref := RX4) (C := RX4) (T := TX4) (N := 12) (index := 26) (ty := .int) (f' := (mC cI cII κ σ1)) S hK hP hκ hA hS hiX4 tyX4_ok nmX4 (by decide) rfl rfl (by decide) rfl (by decide +kernel) rfl (by decide +kernel) rfl rfl (Nat.le_of_ble_eq_true rfl) (fun j _ => by rw [eσ1]; exact mC_p0 j) dX4_fidelity_2 (fun H locs hP hS => ?_)
  refine lv_aload_n hx hb dX4_fidelity_5 rfl (lv_at hl 0 rfl) ?_
  refine g_get (q := 0) (ci := 4) (k := 1) (ref := RX4) (C := RX4) (T := TX4) (N := 12) (index := 9) (v := .int ((σ1.1 1))) S hK hP hiX4 (by decide) rfl rfl (by decide) rfl (by decide +kernel) rfl dX4_fidelity_6 ?_
  refine lv_aload_n hx hb dX4_fidelity_9 rfl (lv_at hl 0 rfl) ?_
  refine g_get (q := 0) (ci := 4) (k := 1) (ref := RX4) (C := RX4) (T := TX4) (N := 12) (index := 9) (v := .int ((σ1.1 1))) S hK hP hiX4 (by decide) rfl rfl (by decide) rfl (by decide +kernel) rfl dX4_fidelity_10 ?_
  refine lv_iconst (v := 1) hx hb dX4_fidelity_13 (by decide) ?_
  refine lv_isub hx hb dX4_fidelity_14 ?_
  refine lv_imul hx hb dX4_fidelity_15 ?_
  refine lv_iconst (v := 2) hx hb dX4_fidelity_16 (by decide) ?_
  refine lv_idiv hx hb dX4_fidelity_17 (by decide) ?_
  obtain ⟨v2, ev2, hf⟩ := letb_w hf
  refine lv_nmi ev2 ?_
  refine lv_istore_n (lv' := [(1, .int v2), (0, .ref (κ 0))]) hx hb dX4_fidelity_18 rfl hl (by decide) rfl (fun ls hl => ?_)
  refine lv_iconst (v := 0) hx hb dX4_fidelity_19 (by decide) ?_
  obtain ⟨v3, ev3, hf⟩ := letb_w hf
  refine lv_nmi ev3 ?_
  refine lv_istore_n (lv' := [(2, .int v3), (1, .int v2), (0, .ref (κ 0))]) hx hb dX4_fidelity_20 rfl hl (by decide) rfl (fun ls hl => ?_)
  refine loopF_w (P := fun (g : Int32 → Int32 → Option (UInt64 × SX)) => ∀ (x1_21 : Int32) (x2_21 : Int32), g x1_21 x2_21 = some (r, σ') → ∀ (H : Heap) (locs : List Loc) (ls : Array Slot), va_P D vwCl (gw 5 κ (mC cI cII κ σ1)) H → va_S (gA 5 κ) s.heap H locs → lv_has ls 4 [(0, .ref (κ 0)), (1, .int x1_21), (2, .int x2_21)] → W p l e ({ frames := 7, cells := 0, slots := 0, locals := 160 } : Room) s m args below meth c H locs 0 0 (MQ below (QD D cI cII 5 κ (mC cI cII κ σ') r) args s 0 0 (gA 5 κ)) (F0 m 21 ls [])) (fun _ _ h => by simp at h) ?_ FU _ _ hf _ _ _ hP hS (lv_sub hl [2, 1, 0] rfl)
  intro rec21 ih21 x1_21 x2_21 hf H locs ls hP hS hl
  unfold bd_X4_fidelity_21 at hf
  refine lv_iload_n hx hb dX4_fidelity_21 rfl (lv_at hl 2 rfl) ?_
  refine lv_aload_n hx hb dX4_fidelity_22 rfl (lv_at hl 0 rfl) ?_
  refine g_get (q := 0) (ci := 4) (k := 1) (ref := RX4) (C := RX4) (T := TX4) (N := 12) (index := 9) (v := .int ((σ1.1 1))) S hK hP hiX4 (by decide) rfl rfl (by decide) rfl (by decide +kernel) rfl dX4_fidelity_23 ?_
  refine lv_icmp_ge (tgt := 66) hx hb dX4_fidelity_26 (by decide) (fun c26 => ?_) (fun c26 => ?_)
  · have hf := iteT c26 hf
    refine lv_iload_n hx hb dX4_fidelity_66 rfl (lv_at hl 1 rfl) ?_
    obtain ⟨K89, hK89, hf⟩ := letb_w hf
    have J89 : ∀ (z0_89 : UInt64) (τ_89 : SX), K89 z0_89 τ_89 = some (r, σ') → ∀ (H : Heap) (locs : List Loc) (ls : Array Slot), va_P D vwCl (gw 5 κ (mC cI cII κ τ_89)) H → va_S (gA 5 κ) s.heap H locs → lv_has ls 4 [] → W p l e ({ frames := 7, cells := 0, slots := 0, locals := 160 } : Room) s m args below meth c H locs 0 0 (MQ below (QD D cI cII 5 κ (mC cI cII κ σ') r) args s 0 0 (gA 5 κ)) (F0 m 89 ls [.double z0_89]) := by
      intro z0_89 τ_89 hf H locs ls hP hS hl
      rw [hK89] at hf
      obtain ⟨h8, h9⟩ := Prod.mk.inj (Option.some.inj hf)
      subst h9
      exact g_dret S hr hlk hK hP hS h8 dX4_fidelity_89
    refine lv_if_ne (tgt := 74) hx hb dX4_fidelity_67 (by decide) (fun c67 => ?_) (fun c67 => ?_)
    · have hf := iteT c67 hf
      refine lv_dconst1 hx hb dX4_fidelity_74 ?_
      refine lv_aload_n hx hb dX4_fidelity_75 rfl (lv_at hl 0 rfl) ?_
      obtain ⟨v5, σ4, hq76, hf⟩ := bind2_w hf
      refine g_calli (va_runV (As := []) (rest := [.double d1]) S (met_X4_lumpCount l D cI cII κ hκ σ1 v5 σ4 hq76) (cwV 0 S.2.2.2.2 gX4_fidelity_X4_lumpCount rfl rfl rfl (by decide +kernel) ⟨Nat.le_of_ble_eq_true rfl, Nat.le_of_ble_eq_true rfl⟩) (g_preV (N := 12) (T := TX4) hK hP (Nat.le_refl _) (by decide) rfl rfl) rfl rfl hl.1 rfl (lv_room (Nat.le_of_ble_eq_true rfl)) dX4_fidelity_76 ⟨Nat.le_of_ble_eq_true rfl, Nat.le_of_ble_eq_true rfl⟩) (Nat.le_refl _) hκ hA hP hS (fun j h1 h2 => absurd h2 (Nat.not_lt.mpr h1)) (fun H locs hP hS => ?_)
      refine lv_aload_n hx hb dX4_fidelity_79 rfl (lv_at hl 0 rfl) ?_
      obtain ⟨v7, σ6, hq80, hf⟩ := bind2_w hf
      refine g_calli (va_runV (As := []) (rest := [.int v5, .double d1]) S (met_X4_leakCount l D cI cII κ hκ σ4 v7 σ6 hq80) (cwV 0 S.2.2.2.2 gX4_fidelity_X4_leakCount rfl rfl rfl (by decide +kernel) ⟨Nat.le_of_ble_eq_true rfl, Nat.le_of_ble_eq_true rfl⟩) (g_preV (N := 12) (T := TX4) hK hP (Nat.le_refl _) (by decide) rfl rfl) rfl rfl hl.1 rfl (lv_room (Nat.le_of_ble_eq_true rfl)) dX4_fidelity_80 ⟨Nat.le_of_ble_eq_true rfl, Nat.le_of_ble_eq_true rfl⟩) (Nat.le_refl _) hκ hA hP hS (fun j h1 h2 => absurd h2 (Nat.not_lt.mpr h1)) (fun H locs hP hS => ?_)
      refine lv_iadd hx hb dX4_fidelity_83 ?_
      refine lv_i2d hx hb dX4_fidelity_84 ?_
      refine lv_iload_n hx hb dX4_fidelity_85 rfl (lv_at hl 1 rfl) ?_
      refine lv_i2d hx hb dX4_fidelity_86 ?_
      obtain ⟨v8, hv8, hf⟩ := obw hf
      refine lv_ddiv hx hb dX4_fidelity_87 (dz_w hv8).2 ?_
      rw [show FP.ddiv ((FP.i2d ((v5 + v7)))) ((FP.i2d x1_21)) = v8 from (dz_w hv8).1]
      obtain ⟨v9, hv9, hf⟩ := obw hf
      refine lv_dsub hx hb dX4_fidelity_88 (dz_w hv9).2 ?_
      rw [show FP.dsub d1 v8 = v9 from (dz_w hv9).1]
      exact J89 _ _ hf _ _ _ hP hS (lv_sub hl [] rfl)
    · have hf := iteN c67 hf
      refine lv_dconst1 hx hb dX4_fidelity_70 ?_
      refine lv_goto (tgt := 89) hx hb dX4_fidelity_71 (by decide) ?_
      exact J89 _ _ hf _ _ _ hP hS (lv_sub hl [] rfl)
  · have hf := iteF c26 hf
    refine lv_iconst (v := 0) hx hb dX4_fidelity_29 (by decide) ?_
    obtain ⟨v10, ev10, hf⟩ := letb_w hf
    refine lv_nmi ev10 ?_
    refine lv_istore_n (lv' := [(3, .int v10), (0, .ref (κ 0)), (1, .int x1_21), (2, .int x2_21)]) hx hb dX4_fidelity_30 rfl hl (by decide) rfl (fun ls hl => ?_)
    refine loopF_w (P := fun (g : Int32 → Int32 → Option (UInt64 × SX)) => ∀ (x1_31 : Int32) (x3_31 : Int32), g x1_31 x3_31 = some (r, σ') → ∀ (H : Heap) (locs : List Loc) (ls : Array Slot), va_P D vwCl (gw 5 κ (mC cI cII κ σ1)) H → va_S (gA 5 κ) s.heap H locs → lv_has ls 4 [(0, .ref (κ 0)), (1, .int x1_31), (2, .int x2_21), (3, .int x3_31)] → W p l e ({ frames := 7, cells := 0, slots := 0, locals := 160 } : Room) s m args below meth c H locs 0 0 (MQ below (QD D cI cII 5 κ (mC cI cII κ σ') r) args s 0 0 (gA 5 κ)) (F0 m 31 ls [])) (fun _ _ h => by simp at h) ?_ FU _ _ hf _ _ _ hP hS (lv_sub hl [1, 2, 3, 0] rfl)
    intro rec31 ih31 x1_31 x3_31 hf H locs ls hP hS hl
    unfold bd_X4_fidelity_31 at hf
    refine lv_iload_n hx hb dX4_fidelity_31 rfl (lv_at hl 3 rfl) ?_
    refine lv_bipush (v := 6) hx hb dX4_fidelity_32 (by decide) ?_
    refine lv_icmp_ge (tgt := 60) hx hb dX4_fidelity_34 (by decide) (fun c34 => ?_) (fun c34 => ?_)
    · have hf := iteT c34 hf
      obtain ⟨v11, ev11, hf⟩ := letb_w hf
      refine lv_iinc (v := v11) (lv' := [(2, .int v11), (0, .ref (κ 0)), (1, .int x1_31), (3, .int x3_31)]) hx hb dX4_fidelity_60 hl (k := 2) rfl (by rw [ev11]; rfl) (by decide) rfl (fun ls hl => ?_)
      refine lv_goto (tgt := 21) hx hb dX4_fidelity_63 (by decide) ?_
      exact ih21 _ _ hf _ _ _ hP hS (lv_sub hl [1, 2, 0] rfl)
    · have hf := iteF c34 hf
      refine lv_iload_n hx hb dX4_fidelity_37 rfl (lv_at hl 1 rfl) ?_
      refine lv_aload_n hx hb dX4_fidelity_38 rfl (lv_at hl 0 rfl) ?_
      refine lv_iload_n hx hb dX4_fidelity_39 rfl (lv_at hl 2 rfl) ?_
      refine lv_iload_n hx hb dX4_fidelity_40 rfl (lv_at hl 3 rfl) ?_
      obtain ⟨v12, hq41, hf⟩ := obw hf
      refine g_calli (va_runV (As := [.int x2_21, .int x3_31]) (rest := [.int x1_31]) S (met_X4_isAsked l D cI cII κ hκ σ1 x2_21 x3_31 v12 hq41) (cwV 2 S.2.2.2.2 gX4_fidelity_X4_isAsked rfl rfl rfl (by decide +kernel) ⟨Nat.le_of_ble_eq_true rfl, Nat.le_of_ble_eq_true rfl⟩) (g_preV (N := 12) (T := TX4) hK hP (Nat.le_refl _) (by decide) rfl rfl) rfl rfl hl.1 rfl (lv_room (Nat.le_of_ble_eq_true rfl)) dX4_fidelity_41 ⟨Nat.le_of_ble_eq_true rfl, Nat.le_of_ble_eq_true rfl⟩) (Nat.le_refl _) hκ hA hP hS (fun j h1 h2 => absurd h2 (Nat.not_lt.mpr h1)) (fun H locs hP hS => ?_)
      obtain ⟨K52, hK52, hf⟩ := letb_w hf
      have J52 : ∀ (z1_52 : Int32), K52 z1_52 = some (r, σ') → ∀ (H : Heap) (locs : List Loc) (ls : Array Slot), va_P D vwCl (gw 5 κ (mC cI cII κ σ1)) H → va_S (gA 5 κ) s.heap H locs → lv_has ls 4 [(0, .ref (κ 0)), (2, .int x2_21), (3, .int x3_31)] → W p l e ({ frames := 7, cells := 0, slots := 0, locals := 160 } : Room) s m args below meth c H locs 0 0 (MQ below (QD D cI cII 5 κ (mC cI cII κ σ') r) args s 0 0 (gA 5 κ)) (F0 m 52 ls [.int z1_52, .int x1_31]) := by
        intro z1_52 hf H locs ls hP hS hl
        rw [hK52] at hf
        refine lv_iadd hx hb dX4_fidelity_52 ?_
        obtain ⟨v13, ev13, hf⟩ := letb_w hf
        refine lv_nmi ev13 ?_
        refine lv_istore_n (lv' := [(1, .int v13), (0, .ref (κ 0)), (2, .int x2_21), (3, .int x3_31)]) hx hb dX4_fidelity_53 rfl hl (by decide) rfl (fun ls hl => ?_)
        obtain ⟨v14, ev14, hf⟩ := letb_w hf
        refine lv_iinc (v := v14) (lv' := [(3, .int v14), (1, .int v13), (0, .ref (κ 0)), (2, .int x2_21)]) hx hb dX4_fidelity_54 hl (k := 3) rfl (by rw [ev14]; rfl) (by decide) rfl (fun ls hl => ?_)
        refine lv_goto (tgt := 31) hx hb dX4_fidelity_57 (by decide) ?_
        exact ih31 _ _ hf _ _ _ hP hS (lv_sub hl [2, 1, 3, 0] rfl)
      refine lv_if_eq (tgt := 51) hx hb dX4_fidelity_44 (by decide) (fun c44 => ?_) (fun c44 => ?_)
      · have hf := iteT c44 hf
        refine lv_iconst (v := 0) hx hb dX4_fidelity_51 (by decide) ?_
        exact J52 _ hf _ _ _ hP hS (lv_sub hl [0, 2, 3] rfl)
      · have hf := iteF c44 hf
        refine lv_iconst (v := 1) hx hb dX4_fidelity_47 (by decide) ?_
        refine lv_goto (tgt := 52) hx hb dX4_fidelity_48 (by decide) ?_
        exact J52 _ hf _ _ _ hP hS (lv_sub hl [0, 2, 3] rfl)
