/-! by wip/whole/gen.py: walks: the machine computes the pure functions -/
set_option maxRecDepth 100000 in
set_option maxHeartbeats 4000000 in
theorem met_X3_changed (l : Launch) (D : va_G) (cI cII : ClassId) (κ : Nat → Nat) (hκ : Inj 31 κ) (σ : SX)  (σ' : SX) (hf : fn_X3_changed σ  = some σ') : Met l yX3_changed wsX3_changed ({ frames := 0, cells := 0, slots := 0, locals := 0 } : Room) (va_Pc [.ref (κ 0)] (xP D cI cII κ σ)) (QV D cI cII 31 κ (xC cI cII κ σ')) 0 0 (gA 31 κ) := by
  refine g_enter (cc := cX3_changed) (maxL := 1) (ret := none) (by decide) rfl (Nat.le_of_ble_eq_true rfl) ?_
  intro p e s m args below meth c ls S hr hlk _ hB hl
  have S : CallFix p m c cX3_changed 1 s args wsX3_changed RX3 := S
  obtain ⟨hP, hK⟩ := hB
  have hl : lv_has ls 1 [(0, .ref (κ 0))] := hl
  have hS : va_S (gA 31 κ) s.heap s.heap [] := va_S.rf
  have hA : ∀ k, k < 31 → gA 31 κ (κ k) := gA_in
  obtain ⟨hx, hb, hml, hown, hts⟩ := id S
  have hiX0 : ∀ w ∈ u_ws RX0 TX0 11, w ∈ wsX3_changed := by decide +kernel
  have hiX1 : ∀ w ∈ u_ws RX1 TX1 4, w ∈ wsX3_changed := by decide +kernel
  have hiX3 : ∀ w ∈ u_ws RX3 TX3 3, w ∈ wsX3_changed := by decide +kernel
  unfold fn_X3_changed at hf
  refine lv_aload_n hx hb dX3_changed_0 rfl (lv_at hl 0 rfl) ?_
  refine g_get (q := 0) (ci := 3) (k := 1) (ref := RX3) (C := RX3) (T := TX3) (N := 3) (index := 21) (v := .ref (κ 2)) S hK hP hiX3 (by decide) rfl rfl (by decide) rfl (by decide +kernel) rfl dX3_changed_1 ?_
  refine lv_iconst (v := 0) hx hb dX3_changed_4 (by decide) ?_
  obtain ⟨σ1, eσ1, hf⟩ := letb_w hf
  refine g_putN (q := 2) (ci := 1) (k := 3) (ref := RX1) (C := RX1) (T := TX1) (N := 4) (index := 188) (ty := .boolean) (f' := (xC cI cII κ σ1)) S hK hP hκ hA hS hiX1 tyX1_ok nmX1 (by decide) rfl rfl (by decide) rfl hK.2.2.2.2.1 rfl (by decide +kernel) rfl rfl (Nat.le_of_ble_eq_true rfl) (fun j _ => by rw [eσ1]; exact xC_p2 j) dX3_changed_5 (fun H locs hP hS => ?_)
  refine lv_aload_n hx hb dX3_changed_8 rfl (lv_at hl 0 rfl) ?_
  refine g_get (q := 0) (ci := 3) (k := 2) (ref := RX3) (C := RX3) (T := TX3) (N := 3) (index := 30) (v := .ref (κ 3)) S hK hP hiX3 (by decide) rfl rfl (by decide) rfl (by decide +kernel) rfl dX3_changed_9 ?_
  refine lv_iconst (v := 0) hx hb dX3_changed_12 (by decide) ?_
  obtain ⟨σ2, eσ2, hf⟩ := letb_w hf
  refine g_putN (q := 3) (ci := 0) (k := 2) (ref := RX0) (C := RX0) (T := TX0) (N := 11) (index := 128) (ty := .boolean) (f' := (xC cI cII κ σ2)) S hK hP hκ hA hS hiX0 tyX0_ok nmX0 (by decide) rfl rfl (by decide) rfl hK.2.2.2.2.2.1 rfl (by decide +kernel) rfl rfl (Nat.le_of_ble_eq_true rfl) (fun j _ => by rw [eσ2]; exact xC_p3 j) dX3_changed_13 (fun H locs hP hS => ?_)
  obtain rfl := Option.some.inj hf
  exact g_vret S hr hlk hK hP hS dX3_changed_16

set_option maxRecDepth 100000 in
set_option maxHeartbeats 4000000 in
theorem met_X3_mixed (l : Launch) (D : va_G) (cI cII : ClassId) (κ : Nat → Nat) (hκ : Inj 31 κ) (σ : SX) (p1 : Int64) (p2 : Int32) (r : Int64) (hf : fn_X3_mixed σ p1 p2 = some r) : Met l yX3_mixed wsX3_mixed ({ frames := 0, cells := 0, slots := 0, locals := 0 } : Room) (va_Pc [.long p1, .int p2] (xP D cI cII κ σ)) (QL D cI cII 31 κ (xC cI cII κ σ) r) 0 0 (gA 31 κ) := by
  refine g_enter (cc := cX3_mixed) (maxL := 3) (ret := (some .long)) (by decide) rfl (Nat.le_of_ble_eq_true rfl) ?_
  intro p e s m args below meth c ls S hr hlk _ hB hl
  have S : CallFix p m c cX3_mixed 3 s args wsX3_mixed RX3 := S
  obtain ⟨hP, hK⟩ := hB
  have hl : lv_has ls 3 [(0, .long p1), (2, .int p2)] := hl
  have hS : va_S (gA 31 κ) s.heap s.heap [] := va_S.rf
  have hA : ∀ k, k < 31 → gA 31 κ (κ k) := gA_in
  obtain ⟨hx, hb, hml, hown, hts⟩ := id S
  unfold fn_X3_mixed at hf
  refine lv_lload_n hx hb dX3_mixed_0 rfl (lv_at hl 0 rfl) ?_
  refine lv_ldc2 (v := 31) hx hb hown (hts (.constantLong RX3 186 31) (by decide +kernel)) dX3_mixed_1 ?_
  refine lv_lmul hx hb dX3_mixed_4 ?_
  refine lv_iload_n hx hb dX3_mixed_5 rfl (lv_at hl 1 rfl) ?_
  refine lv_i2l (v := p2.toInt64) hx hb dX3_mixed_6 rfl ?_
  refine lv_ladd hx hb dX3_mixed_7 ?_
  exact g_lret S hr hlk hK hP hS (Option.some.inj hf) dX3_mixed_8

set_option maxRecDepth 100000 in
set_option maxHeartbeats 4000000 in
theorem met_X3_reached (l : Launch) (D : va_G) (cI cII : ClassId) (κ : Nat → Nat) (hκ : Inj 31 κ) (σ : SX)  (r : Int32) (hf : fn_X3_reached σ  = some r) : Met l yX3_reached wsX3_reached ({ frames := 3, cells := 0, slots := 0, locals := 68 } : Room) (va_Pc [.ref (κ 0)] (xP D cI cII κ σ)) (QI D cI cII 31 κ (xC cI cII κ σ) r) 0 0 (gA 31 κ) := by
  refine g_enter (cc := cX3_reached) (maxL := 1) (ret := (some .int)) (by decide) rfl (Nat.le_of_ble_eq_true rfl) ?_
  intro p e s m args below meth c ls S hr hlk _ hB hl
  have S : CallFix p m c cX3_reached 1 s args wsX3_reached RX3 := S
  obtain ⟨hP, hK⟩ := hB
  have hl : lv_has ls 1 [(0, .ref (κ 0))] := hl
  have hS : va_S (gA 31 κ) s.heap s.heap [] := va_S.rf
  have hA : ∀ k, k < 31 → gA 31 κ (κ k) := gA_in
  obtain ⟨hx, hb, hml, hown, hts⟩ := id S
  have hiX3 : ∀ w ∈ u_ws RX3 TX3 3, w ∈ wsX3_reached := by decide +kernel
  unfold fn_X3_reached at hf
  refine lv_aload_n hx hb dX3_reached_0 rfl (lv_at hl 0 rfl) ?_
  refine g_get (q := 0) (ci := 3) (k := 0) (ref := RX3) (C := RX3) (T := TX3) (N := 3) (index := 10) (v := .ref (κ 1)) S hK hP hiX3 (by decide) rfl rfl (by decide) rfl (by decide +kernel) rfl dX3_reached_1 ?_
  obtain ⟨v1, hq4, hf⟩ := obw hf
  refine g_calli (va_runV (As := []) (rest := []) S (met_X2_reachedStates l D cI cII κ hκ σ v1 hq4) (cwV 0 S.2.2.2.2 gX3_reached_X2_reachedStates rfl rfl rfl (by decide +kernel) ⟨Nat.le_of_ble_eq_true rfl, Nat.le_of_ble_eq_true rfl⟩) (g_preV (N := 5) (T := TX2) hK hP (Nat.le_refl _) (by decide) rfl rfl) rfl rfl hl.1 rfl (lv_room (Nat.le_of_ble_eq_true rfl)) dX3_reached_4 ⟨Nat.le_of_ble_eq_true rfl, Nat.le_of_ble_eq_true rfl⟩) (Nat.le_refl _) hκ hA hP hS (fun j h1 h2 => absurd h2 (Nat.not_lt.mpr h1)) (fun H locs hP hS => ?_)
  exact g_iret S hr hlk hK hP hS (Option.some.inj hf) dX3_reached_7

set_option maxRecDepth 100000 in
set_option maxHeartbeats 4000000 in
theorem met_X3_regionCount (l : Launch) (D : va_G) (cI cII : ClassId) (κ : Nat → Nat) (hκ : Inj 31 κ) (σ : SX)  (r : Int32) (σ' : SX) (hf : fn_X3_regionCount σ  = some (r, σ')) : Met l yX3_regionCount wsX3_regionCount ({ frames := 4, cells := 0, slots := 0, locals := 89 } : Room) (va_Pc [.ref (κ 0)] (xP D cI cII κ σ)) (QI D cI cII 31 κ (xC cI cII κ σ') r) 0 0 (gA 31 κ) := by
  refine g_enter (cc := cX3_regionCount) (maxL := 1) (ret := (some .int)) (by decide) rfl (Nat.le_of_ble_eq_true rfl) ?_
  intro p e s m args below meth c ls S hr hlk _ hB hl
  have S : CallFix p m c cX3_regionCount 1 s args wsX3_regionCount RX3 := S
  obtain ⟨hP, hK⟩ := hB
  have hl : lv_has ls 1 [(0, .ref (κ 0))] := hl
  have hS : va_S (gA 31 κ) s.heap s.heap [] := va_S.rf
  have hA : ∀ k, k < 31 → gA 31 κ (κ k) := gA_in
  obtain ⟨hx, hb, hml, hown, hts⟩ := id S
  have hiX3 : ∀ w ∈ u_ws RX3 TX3 3, w ∈ wsX3_regionCount := by decide +kernel
  unfold fn_X3_regionCount at hf
  refine lv_aload_n hx hb dX3_regionCount_0 rfl (lv_at hl 0 rfl) ?_
  refine g_get (q := 0) (ci := 3) (k := 1) (ref := RX3) (C := RX3) (T := TX3) (N := 3) (index := 21) (v := .ref (κ 2)) S hK hP hiX3 (by decide) rfl rfl (by decide) rfl (by decide +kernel) rfl dX3_regionCount_1 ?_
  obtain ⟨v2, σ1, hq4, hf⟩ := bind2_w hf
  refine g_calli (va_runV (As := []) (rest := []) S (met_X1_count l D cI cII κ hκ σ v2 σ1 hq4) (cwV 0 S.2.2.2.2 gX3_regionCount_X1_count rfl rfl rfl (by decide +kernel) ⟨Nat.le_of_ble_eq_true rfl, Nat.le_of_ble_eq_true rfl⟩) (g_preV (N := 4) (T := TX1) hK hP (Nat.le_refl _) (by decide) rfl rfl) rfl rfl hl.1 rfl (lv_room (Nat.le_of_ble_eq_true rfl)) dX3_regionCount_4 ⟨Nat.le_of_ble_eq_true rfl, Nat.le_of_ble_eq_true rfl⟩) (Nat.le_refl _) hκ hA hP hS (fun j h1 h2 => absurd h2 (Nat.not_lt.mpr h1)) (fun H locs hP hS => ?_)
  obtain ⟨h8, h9⟩ := Prod.mk.inj (Option.some.inj hf)
  subst h9
  exact g_iret S hr hlk hK hP hS h8 dX3_regionCount_7

set_option maxRecDepth 100000 in
set_option maxHeartbeats 4000000 in
theorem met_X3_lumps (l : Launch) (D : va_G) (cI cII : ClassId) (κ : Nat → Nat) (hκ : Inj 31 κ) (σ : SX)  (r : Int32) (σ' : SX) (hf : fn_X3_lumps σ  = some (r, σ')) : Met l yX3_lumps wsX3_lumps ({ frames := 6, cells := 0, slots := 0, locals := 136 } : Room) (va_Pc [.ref (κ 0)] (xP D cI cII κ σ)) (QI D cI cII 31 κ (xC cI cII κ σ') r) 0 0 (gA 31 κ) := by
  refine g_enter (cc := cX3_lumps) (maxL := 1) (ret := (some .int)) (by decide) rfl (Nat.le_of_ble_eq_true rfl) ?_
  intro p e s m args below meth c ls S hr hlk _ hB hl
  have S : CallFix p m c cX3_lumps 1 s args wsX3_lumps RX3 := S
  obtain ⟨hP, hK⟩ := hB
  have hl : lv_has ls 1 [(0, .ref (κ 0))] := hl
  have hS : va_S (gA 31 κ) s.heap s.heap [] := va_S.rf
  have hA : ∀ k, k < 31 → gA 31 κ (κ k) := gA_in
  obtain ⟨hx, hb, hml, hown, hts⟩ := id S
  have hiX3 : ∀ w ∈ u_ws RX3 TX3 3, w ∈ wsX3_lumps := by decide +kernel
  unfold fn_X3_lumps at hf
  refine lv_aload_n hx hb dX3_lumps_0 rfl (lv_at hl 0 rfl) ?_
  refine g_get (q := 0) (ci := 3) (k := 1) (ref := RX3) (C := RX3) (T := TX3) (N := 3) (index := 21) (v := .ref (κ 2)) S hK hP hiX3 (by decide) rfl rfl (by decide) rfl (by decide +kernel) rfl dX3_lumps_1 ?_
  obtain ⟨v2, σ1, hq4, hf⟩ := bind2_w hf
  refine g_calli (va_runV (As := []) (rest := []) S (met_X1_pairsNotApart l D cI cII κ hκ σ v2 σ1 hq4) (cwV 0 S.2.2.2.2 gX3_lumps_X1_pairsNotApart rfl rfl rfl (by decide +kernel) ⟨Nat.le_of_ble_eq_true rfl, Nat.le_of_ble_eq_true rfl⟩) (g_preV (N := 4) (T := TX1) hK hP (Nat.le_refl _) (by decide) rfl rfl) rfl rfl hl.1 rfl (lv_room (Nat.le_of_ble_eq_true rfl)) dX3_lumps_4 ⟨Nat.le_of_ble_eq_true rfl, Nat.le_of_ble_eq_true rfl⟩) (Nat.le_refl _) hκ hA hP hS (fun j h1 h2 => absurd h2 (Nat.not_lt.mpr h1)) (fun H locs hP hS => ?_)
  obtain ⟨h8, h9⟩ := Prod.mk.inj (Option.some.inj hf)
  subst h9
  exact g_iret S hr hlk hK hP hS h8 dX3_lumps_7

set_option maxRecDepth 100000 in
set_option maxHeartbeats 4000000 in
theorem met_X3_leaks (l : Launch) (D : va_G) (cI cII : ClassId) (κ : Nat → Nat) (hκ : Inj 31 κ) (σ : SX)  (r : Int32) (σ' : SX) (hf : fn_X3_leaks σ  = some (r, σ')) : Met l yX3_leaks wsX3_leaks ({ frames := 6, cells := 0, slots := 0, locals := 136 } : Room) (va_Pc [.ref (κ 0)] (xP D cI cII κ σ)) (QI D cI cII 31 κ (xC cI cII κ σ') r) 0 0 (gA 31 κ) := by
  refine g_enter (cc := cX3_leaks) (maxL := 1) (ret := (some .int)) (by decide) rfl (Nat.le_of_ble_eq_true rfl) ?_
  intro p e s m args below meth c ls S hr hlk _ hB hl
  have S : CallFix p m c cX3_leaks 1 s args wsX3_leaks RX3 := S
  obtain ⟨hP, hK⟩ := hB
  have hl : lv_has ls 1 [(0, .ref (κ 0))] := hl
  have hS : va_S (gA 31 κ) s.heap s.heap [] := va_S.rf
  have hA : ∀ k, k < 31 → gA 31 κ (κ k) := gA_in
  obtain ⟨hx, hb, hml, hown, hts⟩ := id S
  have hiX3 : ∀ w ∈ u_ws RX3 TX3 3, w ∈ wsX3_leaks := by decide +kernel
  unfold fn_X3_leaks at hf
  refine lv_aload_n hx hb dX3_leaks_0 rfl (lv_at hl 0 rfl) ?_
  refine g_get (q := 0) (ci := 3) (k := 1) (ref := RX3) (C := RX3) (T := TX3) (N := 3) (index := 21) (v := .ref (κ 2)) S hK hP hiX3 (by decide) rfl rfl (by decide) rfl (by decide +kernel) rfl dX3_leaks_1 ?_
  obtain ⟨v2, σ1, hq4, hf⟩ := bind2_w hf
  refine g_calli (va_runV (As := []) (rest := []) S (met_X1_pairsNotPrevented l D cI cII κ hκ σ v2 σ1 hq4) (cwV 0 S.2.2.2.2 gX3_leaks_X1_pairsNotPrevented rfl rfl rfl (by decide +kernel) ⟨Nat.le_of_ble_eq_true rfl, Nat.le_of_ble_eq_true rfl⟩) (g_preV (N := 4) (T := TX1) hK hP (Nat.le_refl _) (by decide) rfl rfl) rfl rfl hl.1 rfl (lv_room (Nat.le_of_ble_eq_true rfl)) dX3_leaks_4 ⟨Nat.le_of_ble_eq_true rfl, Nat.le_of_ble_eq_true rfl⟩) (Nat.le_refl _) hκ hA hP hS (fun j h1 h2 => absurd h2 (Nat.not_lt.mpr h1)) (fun H locs hP hS => ?_)
  obtain ⟨h8, h9⟩ := Prod.mk.inj (Option.some.inj hf)
  subst h9
  exact g_iret S hr hlk hK hP hS h8 dX3_leaks_7

set_option maxRecDepth 100000 in
set_option maxHeartbeats 4000000 in
theorem met_X3_makeNet (l : Launch) (D : va_G) (cI cII : ClassId) (κ : Nat → Nat) (hκ : Inj 31 κ) (σ : SX)  (r : Int32) (σ' : SX) (hf : fn_X3_makeNet σ  = some (r, σ')) : Met l yX3_makeNet wsX3_makeNet ({ frames := 6, cells := 0, slots := 0, locals := 133 } : Room) (va_Pc [.ref (κ 0)] (xP D cI cII κ σ)) (QI D cI cII 31 κ (xC cI cII κ σ') r) 0 0 (gA 31 κ) := by
  refine g_enter (cc := cX3_makeNet) (maxL := 1) (ret := (some .int)) (by decide) rfl (Nat.le_of_ble_eq_true rfl) ?_
  intro p e s m args below meth c ls S hr hlk _ hB hl
  have S : CallFix p m c cX3_makeNet 1 s args wsX3_makeNet RX3 := S
  obtain ⟨hP, hK⟩ := hB
  have hl : lv_has ls 1 [(0, .ref (κ 0))] := hl
  have hS : va_S (gA 31 κ) s.heap s.heap [] := va_S.rf
  have hA : ∀ k, k < 31 → gA 31 κ (κ k) := gA_in
  obtain ⟨hx, hb, hml, hown, hts⟩ := id S
  have hiX0 : ∀ w ∈ u_ws RX0 TX0 11, w ∈ wsX3_makeNet := by decide +kernel
  have hiX3 : ∀ w ∈ u_ws RX3 TX3 3, w ∈ wsX3_makeNet := by decide +kernel
  unfold fn_X3_makeNet at hf
  refine lv_aload_n hx hb dX3_makeNet_0 rfl (lv_at hl 0 rfl) ?_
  refine g_get (q := 0) (ci := 3) (k := 2) (ref := RX3) (C := RX3) (T := TX3) (N := 3) (index := 30) (v := .ref (κ 3)) S hK hP hiX3 (by decide) rfl rfl (by decide) rfl (by decide +kernel) rfl dX3_makeNet_1 ?_
  refine g_getN (q := 3) (ci := 0) (k := 2) (ref := RX0) (C := RX0) (T := TX0) (N := 11) (index := 128) (v := .int ((σ.1 3))) S hK hP hiX0 (by decide) rfl rfl (by decide) rfl hK.2.2.2.2.2.1 rfl dX3_makeNet_4 ?_
  obtain ⟨K17, hK17, hf⟩ := letb_w hf
  have J17 : ∀ (τ_17 : SX), K17 τ_17 = some (r, σ') → ∀ (H : Heap) (locs : List Loc) (ls : Array Slot), va_P D vwCl (gw 31 κ (xC cI cII κ τ_17)) H → va_S (gA 31 κ) s.heap H locs → lv_has ls 1 [(0, .ref (κ 0))] → W p l e ({ frames := 6, cells := 0, slots := 0, locals := 133 } : Room) s m args below meth c H locs 0 0 (MQ below (QI D cI cII 31 κ (xC cI cII κ σ') r) args s 0 0 (gA 31 κ)) (F0 m 17 ls []) := by
    intro τ_17 hf H locs ls hP hS hl
    rw [hK17] at hf
    refine lv_aload_n hx hb dX3_makeNet_17 rfl (lv_at hl 0 rfl) ?_
    refine g_get (q := 0) (ci := 3) (k := 2) (ref := RX3) (C := RX3) (T := TX3) (N := 3) (index := 30) (v := .ref (κ 3)) S hK hP hiX3 (by decide) rfl rfl (by decide) rfl (by decide +kernel) rfl dX3_makeNet_18 ?_
    refine lv_aload_n hx hb dX3_makeNet_21 rfl (lv_at hl 0 rfl) ?_
    refine g_get (q := 0) (ci := 3) (k := 2) (ref := RX3) (C := RX3) (T := TX3) (N := 3) (index := 30) (v := .ref (κ 3)) S hK hP hiX3 (by decide) rfl rfl (by decide) rfl (by decide +kernel) rfl dX3_makeNet_22 ?_
    refine g_getN (q := 3) (ci := 0) (k := 7) (ref := RX0) (C := RX0) (T := TX0) (N := 11) (index := 135) (v := .int ((τ_17.1 5))) S hK hP hiX0 (by decide) rfl rfl (by decide) rfl hK.2.2.2.2.2.2.2.1 rfl dX3_makeNet_25 ?_
    obtain ⟨σ1, eσ1, hf⟩ := letb_w hf
    refine g_putN (q := 3) (ci := 0) (k := 8) (ref := RX0) (C := RX0) (T := TX0) (N := 11) (index := 138) (ty := .int) (f' := (xC cI cII κ σ1)) S hK hP hκ hA hS hiX0 tyX0_ok nmX0 (by decide) rfl rfl (by decide) rfl hK.2.2.2.2.2.2.2.2.1 rfl (by decide +kernel) rfl rfl (Nat.le_of_ble_eq_true rfl) (fun j _ => by rw [eσ1]; exact xC_p6 j) dX3_makeNet_28 (fun H locs hP hS => ?_)
    refine lv_aload_n hx hb dX3_makeNet_31 rfl (lv_at hl 0 rfl) ?_
    refine g_get (q := 0) (ci := 3) (k := 2) (ref := RX3) (C := RX3) (T := TX3) (N := 3) (index := 30) (v := .ref (κ 3)) S hK hP hiX3 (by decide) rfl rfl (by decide) rfl (by decide +kernel) rfl dX3_makeNet_32 ?_
    refine g_getN (q := 3) (ci := 0) (k := 3) (ref := RX0) (C := RX0) (T := TX0) (N := 11) (index := 141) (v := .int ((σ1.1 4))) S hK hP hiX0 (by decide) rfl rfl (by decide) rfl hK.2.2.2.2.2.2.1 rfl dX3_makeNet_35 ?_
    obtain ⟨h8, h9⟩ := Prod.mk.inj (Option.some.inj hf)
    subst h9
    exact g_iret S hr hlk hK hP hS h8 dX3_makeNet_38
  refine lv_if_ne (tgt := 17) hx hb dX3_makeNet_7 (by decide) (fun c7 => ?_) (fun c7 => ?_)
  · have hf := iteT c7 hf
    exact J17 _ hf _ _ _ hP hS (lv_sub hl [0] rfl)
  · have hf := iteN c7 hf
    refine lv_aload_n hx hb dX3_makeNet_10 rfl (lv_at hl 0 rfl) ?_
    refine g_get (q := 0) (ci := 3) (k := 2) (ref := RX3) (C := RX3) (T := TX3) (N := 3) (index := 30) (v := .ref (κ 3)) S hK hP hiX3 (by decide) rfl rfl (by decide) rfl (by decide +kernel) rfl dX3_makeNet_11 ?_
    obtain ⟨σ2, hq14, hf⟩ := obw hf
    refine g_callv (va_runV (As := []) (rest := []) S (met_X0_make l D cI cII κ hκ σ σ2 hq14) (cwV 0 S.2.2.2.2 gX3_makeNet_X0_make rfl rfl rfl (by decide +kernel) ⟨Nat.le_of_ble_eq_true rfl, Nat.le_of_ble_eq_true rfl⟩) (g_preV (N := 11) (T := TX0) hK hP (Nat.le_refl _) (by decide) rfl rfl) rfl rfl hl.1 rfl (lv_room (Nat.le_of_ble_eq_true rfl)) dX3_makeNet_14 ⟨Nat.le_of_ble_eq_true rfl, Nat.le_of_ble_eq_true rfl⟩) (Nat.le_refl _) hκ hA hP hS (fun j h1 h2 => absurd h2 (Nat.not_lt.mpr h1)) (fun H locs hP hS => ?_)
    exact J17 _ hf _ _ _ hP hS (lv_sub hl [0] rfl)

set_option maxRecDepth 100000 in
set_option maxHeartbeats 4000000 in
theorem met_X3_hasNet (l : Launch) (D : va_G) (cI cII : ClassId) (κ : Nat → Nat) (hκ : Inj 31 κ) (σ : SX)  (r : Int32) (hf : fn_X3_hasNet σ  = some r) : Met l yX3_hasNet wsX3_hasNet ({ frames := 0, cells := 0, slots := 0, locals := 0 } : Room) (va_Pc [.ref (κ 0)] (xP D cI cII κ σ)) (QI D cI cII 31 κ (xC cI cII κ σ) r) 0 0 (gA 31 κ) := by
  refine g_enter (cc := cX3_hasNet) (maxL := 1) (ret := (some .boolean)) (by decide) rfl (Nat.le_of_ble_eq_true rfl) ?_
  intro p e s m args below meth c ls S hr hlk _ hB hl
  have S : CallFix p m c cX3_hasNet 1 s args wsX3_hasNet RX3 := S
  obtain ⟨hP, hK⟩ := hB
  have hl : lv_has ls 1 [(0, .ref (κ 0))] := hl
  have hS : va_S (gA 31 κ) s.heap s.heap [] := va_S.rf
  have hA : ∀ k, k < 31 → gA 31 κ (κ k) := gA_in
  obtain ⟨hx, hb, hml, hown, hts⟩ := id S
  have hiX0 : ∀ w ∈ u_ws RX0 TX0 11, w ∈ wsX3_hasNet := by decide +kernel
  have hiX3 : ∀ w ∈ u_ws RX3 TX3 3, w ∈ wsX3_hasNet := by decide +kernel
  unfold fn_X3_hasNet at hf
  refine lv_aload_n hx hb dX3_hasNet_0 rfl (lv_at hl 0 rfl) ?_
  refine g_get (q := 0) (ci := 3) (k := 2) (ref := RX3) (C := RX3) (T := TX3) (N := 3) (index := 30) (v := .ref (κ 3)) S hK hP hiX3 (by decide) rfl rfl (by decide) rfl (by decide +kernel) rfl dX3_hasNet_1 ?_
  refine g_getN (q := 3) (ci := 0) (k := 2) (ref := RX0) (C := RX0) (T := TX0) (N := 11) (index := 128) (v := .int ((σ.1 3))) S hK hP hiX0 (by decide) rfl rfl (by decide) rfl hK.2.2.2.2.2.1 rfl dX3_hasNet_4 ?_
  exact g_zret S hr hlk hK hP hS hf dX3_hasNet_7

set_option maxRecDepth 100000 in
set_option maxHeartbeats 4000000 in
theorem met_X3_stateCount (l : Launch) (D : va_G) (cI cII : ClassId) (κ : Nat → Nat) (hκ : Inj 31 κ) (σ : SX)  (r : Int32) (hf : fn_X3_stateCount σ  = some r) : Met l yX3_stateCount wsX3_stateCount ({ frames := 0, cells := 0, slots := 0, locals := 0 } : Room) (va_Pc [.ref (κ 0)] (xP D cI cII κ σ)) (QI D cI cII 31 κ (xC cI cII κ σ) r) 0 0 (gA 31 κ) := by
  refine g_enter (cc := cX3_stateCount) (maxL := 1) (ret := (some .int)) (by decide) rfl (Nat.le_of_ble_eq_true rfl) ?_
  intro p e s m args below meth c ls S hr hlk _ hB hl
  have S : CallFix p m c cX3_stateCount 1 s args wsX3_stateCount RX3 := S
  obtain ⟨hP, hK⟩ := hB
  have hl : lv_has ls 1 [(0, .ref (κ 0))] := hl
  have hS : va_S (gA 31 κ) s.heap s.heap [] := va_S.rf
  have hA : ∀ k, k < 31 → gA 31 κ (κ k) := gA_in
  obtain ⟨hx, hb, hml, hown, hts⟩ := id S
  have hiX2 : ∀ w ∈ u_ws RX2 TX2 5, w ∈ wsX3_stateCount := by decide +kernel
  have hiX3 : ∀ w ∈ u_ws RX3 TX3 3, w ∈ wsX3_stateCount := by decide +kernel
  unfold fn_X3_stateCount at hf
  refine lv_aload_n hx hb dX3_stateCount_0 rfl (lv_at hl 0 rfl) ?_
  refine g_get (q := 0) (ci := 3) (k := 0) (ref := RX3) (C := RX3) (T := TX3) (N := 3) (index := 10) (v := .ref (κ 1)) S hK hP hiX3 (by decide) rfl rfl (by decide) rfl (by decide +kernel) rfl dX3_stateCount_1 ?_
  refine g_getN (q := 1) (ci := 2) (k := 0) (ref := RX2) (C := RX2) (T := TX2) (N := 5) (index := 34) (v := .int ((σ.1 0))) S hK hP hiX2 (by decide) rfl rfl (by decide) rfl hK.2.1 rfl dX3_stateCount_4 ?_
  exact g_iret S hr hlk hK hP hS (Option.some.inj hf) dX3_stateCount_7

set_option maxRecDepth 100000 in
set_option maxHeartbeats 4000000 in
theorem met_X3_digest (l : Launch) (D : va_G) (cI cII : ClassId) (κ : Nat → Nat) (hκ : Inj 31 κ) (σ : SX)  (r : Int64) (σ' : SX) (hf : fn_X3_digest σ  = some (r, σ')) : Met l yX3_digest wsX3_digest ({ frames := 4, cells := 0, slots := 0, locals := 89 } : Room) (va_Pc [.ref (κ 0)] (xP D cI cII κ σ)) (QL D cI cII 31 κ (xC cI cII κ σ') r) 0 0 (gA 31 κ) := by
  refine g_enter (cc := cX3_digest) (maxL := 5) (ret := (some .long)) (by decide) rfl (Nat.le_of_ble_eq_true rfl) ?_
  intro p e s m args below meth c ls S hr hlk _ hB hl
  have S : CallFix p m c cX3_digest 5 s args wsX3_digest RX3 := S
  obtain ⟨hP, hK⟩ := hB
  have hl : lv_has ls 5 [(0, .ref (κ 0))] := hl
  have hS : va_S (gA 31 κ) s.heap s.heap [] := va_S.rf
  have hA : ∀ k, k < 31 → gA 31 κ (κ k) := gA_in
  obtain ⟨hx, hb, hml, hown, hts⟩ := id S
  have hiX0 : ∀ w ∈ u_ws RX0 TX0 11, w ∈ wsX3_digest := by decide +kernel
  have hiX2 : ∀ w ∈ u_ws RX2 TX2 5, w ∈ wsX3_digest := by decide +kernel
  have hiX3 : ∀ w ∈ u_ws RX3 TX3 3, w ∈ wsX3_digest := by decide +kernel
  unfold fn_X3_digest at hf
  refine lv_ldc2 (v := 151) hx hb hown (hts (.constantLong RX3 180 151) (by decide +kernel)) dX3_digest_0 ?_
  refine lv_aload_n hx hb dX3_digest_3 rfl (lv_at hl 0 rfl) ?_
  refine g_get (q := 0) (ci := 3) (k := 0) (ref := RX3) (C := RX3) (T := TX3) (N := 3) (index := 10) (v := .ref (κ 1)) S hK hP hiX3 (by decide) rfl rfl (by decide) rfl (by decide +kernel) rfl dX3_digest_4 ?_
  refine g_getN (q := 1) (ci := 2) (k := 0) (ref := RX2) (C := RX2) (T := TX2) (N := 5) (index := 34) (v := .int ((σ.1 0))) S hK hP hiX2 (by decide) rfl rfl (by decide) rfl hK.2.1 rfl dX3_digest_7 ?_
  obtain ⟨v1, hq10, hf⟩ := obw hf
  refine g_calll (va_runS (As := [.long ((151 : Int64)), .int ((σ.1 0))]) (rest := []) S (met_X3_mixed l D cI cII κ hκ σ ((151 : Int64)) ((σ.1 0)) v1 hq10) (va_cwS 2 S.2.2.2.2 gX3_digest_X3_mixed rfl rfl rfl (by decide +kernel) ⟨Nat.le_of_ble_eq_true rfl, Nat.le_of_ble_eq_true rfl⟩) (g_preS hK hP (Nat.le_refl _)) rfl rfl hl.1 rfl (lv_room (Nat.le_of_ble_eq_true rfl)) dX3_digest_10 ⟨Nat.le_of_ble_eq_true rfl, Nat.le_of_ble_eq_true rfl⟩) (Nat.le_refl _) hκ hA hP hS (fun j h1 h2 => absurd h2 (Nat.not_lt.mpr h1)) (fun H locs hP hS => ?_)
  obtain ⟨v2, ev2, hf⟩ := letb_w hf
  refine lv_nml ev2 ?_
  refine lv_lstore_n (lv' := [(1, .long v2), (0, .ref (κ 0))]) hx hb dX3_digest_13 rfl hl (by decide) rfl (fun ls hl => ?_)
  refine lv_iconst (v := 0) hx hb dX3_digest_14 (by decide) ?_
  obtain ⟨v3, ev3, hf⟩ := letb_w hf
  refine lv_nmi ev3 ?_
  refine lv_istore_n (lv' := [(3, .int v3), (1, .long v2), (0, .ref (κ 0))]) hx hb dX3_digest_15 rfl hl (by decide) rfl (fun ls hl => ?_)
  refine loopF_w (P := fun (g : Int64 → Int32 → Option (Int64 × SX)) => ∀ (x1_16 : Int64) (x3_16 : Int32), g x1_16 x3_16 = some (r, σ') → ∀ (H : Heap) (locs : List Loc) (ls : Array Slot), va_P D vwCl (gw 31 κ (xC cI cII κ σ)) H → va_S (gA 31 κ) s.heap H locs → lv_has ls 5 [(0, .ref (κ 0)), (1, .long x1_16), (3, .int x3_16)] → W p l e ({ frames := 4, cells := 0, slots := 0, locals := 89 } : Room) s m args below meth c H locs 0 0 (MQ below (QL D cI cII 31 κ (xC cI cII κ σ') r) args s 0 0 (gA 31 κ)) (F0 m 16 ls [])) (fun _ _ h => by simp at h) ?_ FU _ _ hf _ _ _ hP hS (lv_sub hl [2, 1, 0] rfl)
  intro rec16 ih16 x1_16 x3_16 hf H locs ls hP hS hl
  unfold bd_X3_digest_16 at hf
  refine lv_iload_n hx hb dX3_digest_16 rfl (lv_at hl 2 rfl) ?_
  refine lv_aload_n hx hb dX3_digest_17 rfl (lv_at hl 0 rfl) ?_
  refine g_get (q := 0) (ci := 3) (k := 0) (ref := RX3) (C := RX3) (T := TX3) (N := 3) (index := 10) (v := .ref (κ 1)) S hK hP hiX3 (by decide) rfl rfl (by decide) rfl (by decide +kernel) rfl dX3_digest_18 ?_
  refine g_getN (q := 1) (ci := 2) (k := 0) (ref := RX2) (C := RX2) (T := TX2) (N := 5) (index := 34) (v := .int ((σ.1 0))) S hK hP hiX2 (by decide) rfl rfl (by decide) rfl hK.2.1 rfl dX3_digest_21 ?_
  refine lv_icmp_ge (tgt := 64) hx hb dX3_digest_24 (by decide) (fun c24 => ?_) (fun c24 => ?_)
  · have hf := iteT c24 hf
    refine lv_aload_n hx hb dX3_digest_64 rfl (lv_at hl 0 rfl) ?_
    refine g_get (q := 0) (ci := 3) (k := 1) (ref := RX3) (C := RX3) (T := TX3) (N := 3) (index := 21) (v := .ref (κ 2)) S hK hP hiX3 (by decide) rfl rfl (by decide) rfl (by decide +kernel) rfl dX3_digest_65 ?_
    obtain ⟨v5, σ4, hq68, hf⟩ := bind2_w hf
    refine g_calli (va_runV (As := []) (rest := []) S (met_X1_count l D cI cII κ hκ σ v5 σ4 hq68) (cwV 0 S.2.2.2.2 gX3_digest_X1_count rfl rfl rfl (by decide +kernel) ⟨Nat.le_of_ble_eq_true rfl, Nat.le_of_ble_eq_true rfl⟩) (g_preV (N := 4) (T := TX1) hK hP (Nat.le_refl _) (by decide) rfl rfl) rfl rfl hl.1 rfl (lv_room (Nat.le_of_ble_eq_true rfl)) dX3_digest_68 ⟨Nat.le_of_ble_eq_true rfl, Nat.le_of_ble_eq_true rfl⟩) (Nat.le_refl _) hκ hA hP hS (fun j h1 h2 => absurd h2 (Nat.not_lt.mpr h1)) (fun H locs hP hS => ?_)
    obtain ⟨v6, ev6, hf⟩ := letb_w hf
    refine lv_nmi ev6 ?_
    refine lv_istore_n (lv' := [(3, .int v6), (0, .ref (κ 0)), (1, .long x1_16)]) hx hb dX3_digest_71 rfl hl (by decide) rfl (fun ls hl => ?_)
    refine lv_lload_n hx hb dX3_digest_72 rfl (lv_at hl 2 rfl) ?_
    refine lv_iload_n hx hb dX3_digest_73 rfl (lv_at hl 0 rfl) ?_
    obtain ⟨v7, hq74, hf⟩ := obw hf
    refine g_calll (va_runS (As := [.long x1_16, .int v6]) (rest := []) S (met_X3_mixed l D cI cII κ hκ σ4 x1_16 v6 v7 hq74) (va_cwS 2 S.2.2.2.2 gX3_digest_X3_mixed rfl rfl rfl (by decide +kernel) ⟨Nat.le_of_ble_eq_true rfl, Nat.le_of_ble_eq_true rfl⟩) (g_preS hK hP (Nat.le_refl _)) rfl rfl hl.1 rfl (lv_room (Nat.le_of_ble_eq_true rfl)) dX3_digest_74 ⟨Nat.le_of_ble_eq_true rfl, Nat.le_of_ble_eq_true rfl⟩) (Nat.le_refl _) hκ hA hP hS (fun j h1 h2 => absurd h2 (Nat.not_lt.mpr h1)) (fun H locs hP hS => ?_)
    obtain ⟨v8, ev8, hf⟩ := letb_w hf
    refine lv_nml ev8 ?_
    refine lv_lstore_n (lv' := [(1, .long v8), (3, .int v6), (0, .ref (κ 0))]) hx hb dX3_digest_77 rfl hl (by decide) rfl (fun ls hl => ?_)
    refine lv_iconst (v := 0) hx hb dX3_digest_78 (by decide) ?_
    obtain ⟨v9, ev9, hf⟩ := letb_w hf
    refine lv_nmi ev9 ?_
    refine lv_istore (lv' := [(4, .int v9), (1, .long v8), (3, .int v6), (0, .ref (κ 0))]) hx hb dX3_digest_79 hl (by decide) rfl (fun ls hl => ?_)
    refine loopF_w (P := fun (g : Int64 → Int32 → Option (Int64 × SX)) => ∀ (x1_81 : Int64) (x4_81 : Int32), g x1_81 x4_81 = some (r, σ') → ∀ (H : Heap) (locs : List Loc) (ls : Array Slot), va_P D vwCl (gw 31 κ (xC cI cII κ σ4)) H → va_S (gA 31 κ) s.heap H locs → lv_has ls 5 [(0, .ref (κ 0)), (1, .long x1_81), (3, .int v6), (4, .int x4_81)] → W p l e ({ frames := 4, cells := 0, slots := 0, locals := 89 } : Room) s m args below meth c H locs 0 0 (MQ below (QL D cI cII 31 κ (xC cI cII κ σ') r) args s 0 0 (gA 31 κ)) (F0 m 81 ls [])) (fun _ _ h => by simp at h) ?_ FU _ _ hf _ _ _ hP hS (lv_sub hl [3, 1, 2, 0] rfl)
    intro rec81 ih81 x1_81 x4_81 hf H locs ls hP hS hl
    unfold bd_X3_digest_81 at hf
    refine lv_iload hx hb dX3_digest_81 (lv_at hl 3 rfl) ?_
    refine lv_iload_n hx hb dX3_digest_83 rfl (lv_at hl 2 rfl) ?_
    refine lv_icmp_ge (tgt := 107) hx hb dX3_digest_84 (by decide) (fun c84 => ?_) (fun c84 => ?_)
    · have hf := iteT c84 hf
      refine lv_aload_n hx hb dX3_digest_107 rfl (lv_at hl 0 rfl) ?_
      refine g_get (q := 0) (ci := 3) (k := 2) (ref := RX3) (C := RX3) (T := TX3) (N := 3) (index := 30) (v := .ref (κ 3)) S hK hP hiX3 (by decide) rfl rfl (by decide) rfl (by decide +kernel) rfl dX3_digest_108 ?_
      refine g_getN (q := 3) (ci := 0) (k := 2) (ref := RX0) (C := RX0) (T := TX0) (N := 11) (index := 128) (v := .int ((σ4.1 3))) S hK hP hiX0 (by decide) rfl rfl (by decide) rfl hK.2.2.2.2.2.1 rfl dX3_digest_111 ?_
      obtain ⟨K141, hK141, hf⟩ := letb_w hf
      have J141 : ∀ (y1_141 : Int64), K141 y1_141 = some (r, σ') → ∀ (H : Heap) (locs : List Loc) (ls : Array Slot), va_P D vwCl (gw 31 κ (xC cI cII κ σ4)) H → va_S (gA 31 κ) s.heap H locs → lv_has ls 5 [(1, .long y1_141)] → W p l e ({ frames := 4, cells := 0, slots := 0, locals := 89 } : Room) s m args below meth c H locs 0 0 (MQ below (QL D cI cII 31 κ (xC cI cII κ σ') r) args s 0 0 (gA 31 κ)) (F0 m 141 ls []) := by
        intro y1_141 hf H locs ls hP hS hl
        rw [hK141] at hf
        refine lv_lload_n hx hb dX3_digest_141 rfl (lv_at hl 0 rfl) ?_
        obtain ⟨h8, h9⟩ := Prod.mk.inj (Option.some.inj hf)
        subst h9
        exact g_lret S hr hlk hK hP hS h8 dX3_digest_142
      refine lv_if_eq (tgt := 141) hx hb dX3_digest_114 (by decide) (fun c114 => ?_) (fun c114 => ?_)
      · have hf := iteT c114 hf
        exact J141 _ hf _ _ _ hP hS (lv_sub hl [1] rfl)
      · have hf := iteF c114 hf
        refine lv_lload_n hx hb dX3_digest_117 rfl (lv_at hl 1 rfl) ?_
        refine lv_aload_n hx hb dX3_digest_118 rfl (lv_at hl 0 rfl) ?_
        refine g_get (q := 0) (ci := 3) (k := 2) (ref := RX3) (C := RX3) (T := TX3) (N := 3) (index := 30) (v := .ref (κ 3)) S hK hP hiX3 (by decide) rfl rfl (by decide) rfl (by decide +kernel) rfl dX3_digest_119 ?_
        refine g_getN (q := 3) (ci := 0) (k := 3) (ref := RX0) (C := RX0) (T := TX0) (N := 11) (index := 141) (v := .int ((σ4.1 4))) S hK hP hiX0 (by decide) rfl rfl (by decide) rfl hK.2.2.2.2.2.2.1 rfl dX3_digest_122 ?_
        obtain ⟨v10, hq125, hf⟩ := obw hf
        refine g_calll (va_runS (As := [.long x1_81, .int ((σ4.1 4))]) (rest := []) S (met_X3_mixed l D cI cII κ hκ σ4 x1_81 ((σ4.1 4)) v10 hq125) (va_cwS 2 S.2.2.2.2 gX3_digest_X3_mixed rfl rfl rfl (by decide +kernel) ⟨Nat.le_of_ble_eq_true rfl, Nat.le_of_ble_eq_true rfl⟩) (g_preS hK hP (Nat.le_refl _)) rfl rfl hl.1 rfl (lv_room (Nat.le_of_ble_eq_true rfl)) dX3_digest_125 ⟨Nat.le_of_ble_eq_true rfl, Nat.le_of_ble_eq_true rfl⟩) (Nat.le_refl _) hκ hA hP hS (fun j h1 h2 => absurd h2 (Nat.not_lt.mpr h1)) (fun H locs hP hS => ?_)
        obtain ⟨v11, ev11, hf⟩ := letb_w hf
        refine lv_nml ev11 ?_
        refine lv_lstore_n (lv' := [(1, .long v11), (0, .ref (κ 0)), (3, .int v6), (4, .int x4_81)]) hx hb dX3_digest_128 rfl hl (by decide) rfl (fun ls hl => ?_)
        refine lv_lload_n hx hb dX3_digest_129 rfl (lv_at hl 0 rfl) ?_
        refine lv_aload_n hx hb dX3_digest_130 rfl (lv_at hl 1 rfl) ?_
        refine g_get (q := 0) (ci := 3) (k := 2) (ref := RX3) (C := RX3) (T := TX3) (N := 3) (index := 30) (v := .ref (κ 3)) S hK hP hiX3 (by decide) rfl rfl (by decide) rfl (by decide +kernel) rfl dX3_digest_131 ?_
        refine g_getN (q := 3) (ci := 0) (k := 8) (ref := RX0) (C := RX0) (T := TX0) (N := 11) (index := 138) (v := .int ((σ4.1 6))) S hK hP hiX0 (by decide) rfl rfl (by decide) rfl hK.2.2.2.2.2.2.2.2.1 rfl dX3_digest_134 ?_
        obtain ⟨v12, hq137, hf⟩ := obw hf
        refine g_calll (va_runS (As := [.long v11, .int ((σ4.1 6))]) (rest := []) S (met_X3_mixed l D cI cII κ hκ σ4 v11 ((σ4.1 6)) v12 hq137) (va_cwS 2 S.2.2.2.2 gX3_digest_X3_mixed rfl rfl rfl (by decide +kernel) ⟨Nat.le_of_ble_eq_true rfl, Nat.le_of_ble_eq_true rfl⟩) (g_preS hK hP (Nat.le_refl _)) rfl rfl hl.1 rfl (lv_room (Nat.le_of_ble_eq_true rfl)) dX3_digest_137 ⟨Nat.le_of_ble_eq_true rfl, Nat.le_of_ble_eq_true rfl⟩) (Nat.le_refl _) hκ hA hP hS (fun j h1 h2 => absurd h2 (Nat.not_lt.mpr h1)) (fun H locs hP hS => ?_)
        obtain ⟨v13, ev13, hf⟩ := letb_w hf
        refine lv_nml ev13 ?_
        refine lv_lstore_n (lv' := [(1, .long v13), (0, .ref (κ 0)), (3, .int v6), (4, .int x4_81)]) hx hb dX3_digest_140 rfl hl (by decide) rfl (fun ls hl => ?_)
        exact J141 _ hf _ _ _ hP hS (lv_sub hl [0] rfl)
    · have hf := iteF c84 hf
      refine lv_lload_n hx hb dX3_digest_87 rfl (lv_at hl 1 rfl) ?_
      refine lv_aload_n hx hb dX3_digest_88 rfl (lv_at hl 0 rfl) ?_
      refine g_get (q := 0) (ci := 3) (k := 1) (ref := RX3) (C := RX3) (T := TX3) (N := 3) (index := 21) (v := .ref (κ 2)) S hK hP hiX3 (by decide) rfl rfl (by decide) rfl (by decide +kernel) rfl dX3_digest_89 ?_
      refine lv_iload hx hb dX3_digest_92 (lv_at hl 3 rfl) ?_
      obtain ⟨v14, hq94, hf⟩ := obw hf
      refine g_calli (va_runV (As := [.int x4_81]) (rest := [.long x1_81]) S (met_X1_at l D cI cII κ hκ σ4 x4_81 v14 hq94) (cwV 1 S.2.2.2.2 gX3_digest_X1_at rfl rfl rfl (by decide +kernel) ⟨Nat.le_of_ble_eq_true rfl, Nat.le_of_ble_eq_true rfl⟩) (g_preV (N := 4) (T := TX1) hK hP (Nat.le_refl _) (by decide) rfl rfl) rfl rfl hl.1 rfl (lv_room (Nat.le_of_ble_eq_true rfl)) dX3_digest_94 ⟨Nat.le_of_ble_eq_true rfl, Nat.le_of_ble_eq_true rfl⟩) (Nat.le_refl _) hκ hA hP hS (fun j h1 h2 => absurd h2 (Nat.not_lt.mpr h1)) (fun H locs hP hS => ?_)
      obtain ⟨v15, hq97, hf⟩ := obw hf
      refine g_calll (va_runS (As := [.long x1_81, .int v14]) (rest := []) S (met_X3_mixed l D cI cII κ hκ σ4 x1_81 v14 v15 hq97) (va_cwS 2 S.2.2.2.2 gX3_digest_X3_mixed rfl rfl rfl (by decide +kernel) ⟨Nat.le_of_ble_eq_true rfl, Nat.le_of_ble_eq_true rfl⟩) (g_preS hK hP (Nat.le_refl _)) rfl rfl hl.1 rfl (lv_room (Nat.le_of_ble_eq_true rfl)) dX3_digest_97 ⟨Nat.le_of_ble_eq_true rfl, Nat.le_of_ble_eq_true rfl⟩) (Nat.le_refl _) hκ hA hP hS (fun j h1 h2 => absurd h2 (Nat.not_lt.mpr h1)) (fun H locs hP hS => ?_)
      obtain ⟨v16, ev16, hf⟩ := letb_w hf
      refine lv_nml ev16 ?_
      refine lv_lstore_n (lv' := [(1, .long v16), (0, .ref (κ 0)), (3, .int v6), (4, .int x4_81)]) hx hb dX3_digest_100 rfl hl (by decide) rfl (fun ls hl => ?_)
      obtain ⟨v17, ev17, hf⟩ := letb_w hf
      refine lv_iinc (v := v17) (lv' := [(4, .int v17), (1, .long v16), (0, .ref (κ 0)), (3, .int v6)]) hx hb dX3_digest_101 hl (k := 3) rfl (by rw [ev17]; rfl) (by decide) rfl (fun ls hl => ?_)
      refine lv_goto (tgt := 81) hx hb dX3_digest_104 (by decide) ?_
      exact ih81 _ _ hf _ _ _ hP hS (lv_sub hl [2, 1, 3, 0] rfl)
  · have hf := iteF c24 hf
    refine lv_iconst (v := 0) hx hb dX3_digest_27 (by decide) ?_
    obtain ⟨v18, ev18, hf⟩ := letb_w hf
    refine lv_nmi ev18 ?_
    refine lv_istore (lv' := [(4, .int v18), (0, .ref (κ 0)), (1, .long x1_16), (3, .int x3_16)]) hx hb dX3_digest_28 hl (by decide) rfl (fun ls hl => ?_)
    refine loopF_w (P := fun (g : Int64 → Int32 → Option (Int64 × SX)) => ∀ (x1_30 : Int64) (x4_30 : Int32), g x1_30 x4_30 = some (r, σ') → ∀ (H : Heap) (locs : List Loc) (ls : Array Slot), va_P D vwCl (gw 31 κ (xC cI cII κ σ)) H → va_S (gA 31 κ) s.heap H locs → lv_has ls 5 [(0, .ref (κ 0)), (1, .long x1_30), (3, .int x3_16), (4, .int x4_30)] → W p l e ({ frames := 4, cells := 0, slots := 0, locals := 89 } : Room) s m args below meth c H locs 0 0 (MQ below (QL D cI cII 31 κ (xC cI cII κ σ') r) args s 0 0 (gA 31 κ)) (F0 m 30 ls [])) (fun _ _ h => by simp at h) ?_ FU _ _ hf _ _ _ hP hS (lv_sub hl [1, 2, 3, 0] rfl)
    intro rec30 ih30 x1_30 x4_30 hf H locs ls hP hS hl
    unfold bd_X3_digest_30 at hf
    refine lv_iload hx hb dX3_digest_30 (lv_at hl 3 rfl) ?_
    refine lv_bipush (v := 6) hx hb dX3_digest_32 (by decide) ?_
    refine lv_icmp_ge (tgt := 58) hx hb dX3_digest_34 (by decide) (fun c34 => ?_) (fun c34 => ?_)
    · have hf := iteT c34 hf
      obtain ⟨v19, ev19, hf⟩ := letb_w hf
      refine lv_iinc (v := v19) (lv' := [(3, .int v19), (0, .ref (κ 0)), (1, .long x1_30), (4, .int x4_30)]) hx hb dX3_digest_58 hl (k := 2) rfl (by rw [ev19]; rfl) (by decide) rfl (fun ls hl => ?_)
      refine lv_goto (tgt := 16) hx hb dX3_digest_61 (by decide) ?_
      exact ih16 _ _ hf _ _ _ hP hS (lv_sub hl [1, 2, 0] rfl)
    · have hf := iteF c34 hf
      refine lv_lload_n hx hb dX3_digest_37 rfl (lv_at hl 1 rfl) ?_
      refine lv_aload_n hx hb dX3_digest_38 rfl (lv_at hl 0 rfl) ?_
      refine g_get (q := 0) (ci := 3) (k := 0) (ref := RX3) (C := RX3) (T := TX3) (N := 3) (index := 10) (v := .ref (κ 1)) S hK hP hiX3 (by decide) rfl rfl (by decide) rfl (by decide +kernel) rfl dX3_digest_39 ?_
      refine lv_iload_n hx hb dX3_digest_42 rfl (lv_at hl 2 rfl) ?_
      refine lv_iload hx hb dX3_digest_43 (lv_at hl 3 rfl) ?_
      obtain ⟨v20, hq45, hf⟩ := obw hf
      refine g_calli (va_runV (As := [.int x3_16, .int x4_30]) (rest := [.long x1_30]) S (met_X2_end l D cI cII κ hκ σ x3_16 x4_30 v20 hq45) (cwV 2 S.2.2.2.2 gX3_digest_X2_end rfl rfl rfl (by decide +kernel) ⟨Nat.le_of_ble_eq_true rfl, Nat.le_of_ble_eq_true rfl⟩) (g_preV (N := 5) (T := TX2) hK hP (Nat.le_refl _) (by decide) rfl rfl) rfl rfl hl.1 rfl (lv_room (Nat.le_of_ble_eq_true rfl)) dX3_digest_45 ⟨Nat.le_of_ble_eq_true rfl, Nat.le_of_ble_eq_true rfl⟩) (Nat.le_refl _) hκ hA hP hS (fun j h1 h2 => absurd h2 (Nat.not_lt.mpr h1)) (fun H locs hP hS => ?_)
      obtain ⟨v21, hq48, hf⟩ := obw hf
      refine g_calll (va_runS (As := [.long x1_30, .int v20]) (rest := []) S (met_X3_mixed l D cI cII κ hκ σ x1_30 v20 v21 hq48) (va_cwS 2 S.2.2.2.2 gX3_digest_X3_mixed rfl rfl rfl (by decide +kernel) ⟨Nat.le_of_ble_eq_true rfl, Nat.le_of_ble_eq_true rfl⟩) (g_preS hK hP (Nat.le_refl _)) rfl rfl hl.1 rfl (lv_room (Nat.le_of_ble_eq_true rfl)) dX3_digest_48 ⟨Nat.le_of_ble_eq_true rfl, Nat.le_of_ble_eq_true rfl⟩) (Nat.le_refl _) hκ hA hP hS (fun j h1 h2 => absurd h2 (Nat.not_lt.mpr h1)) (fun H locs hP hS => ?_)
      obtain ⟨v22, ev22, hf⟩ := letb_w hf
      refine lv_nml ev22 ?_
      refine lv_lstore_n (lv' := [(1, .long v22), (0, .ref (κ 0)), (3, .int x3_16), (4, .int x4_30)]) hx hb dX3_digest_51 rfl hl (by decide) rfl (fun ls hl => ?_)
      obtain ⟨v23, ev23, hf⟩ := letb_w hf
      refine lv_iinc (v := v23) (lv' := [(4, .int v23), (1, .long v22), (0, .ref (κ 0)), (3, .int x3_16)]) hx hb dX3_digest_52 hl (k := 3) rfl (by rw [ev23]; rfl) (by decide) rfl (fun ls hl => ?_)
      refine lv_goto (tgt := 30) hx hb dX3_digest_55 (by decide) ?_
      exact ih30 _ _ hf _ _ _ hP hS (lv_sub hl [2, 1, 3, 0] rfl)
