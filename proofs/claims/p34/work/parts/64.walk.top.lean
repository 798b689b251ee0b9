/-! by wip/p34/gen.py: walks: the machine computes the pure functions -/
set_option maxRecDepth 100000 in
set_option maxHeartbeats 4000000 in
theorem met_X3_changed (l : Launch) (D : va_G) (cI cII : ClassId) (κ : Nat → Nat) (hκ : Inj 31 κ) (σ : SX)  (σ' : SX) (hf : fn_X3_changed σ  = some σ') : Met l yX3_changed wsX3_changed ({ frames := 0, cells := 0, slots := 0, locals := 0 } : Room) (va_Pc [.ref (κ 0)] (xP D cI cII κ σ)) (QV D cI cII 31 κ (xC cI cII κ σ')) 0 0 (gA 31 κ) := by
  refine g_enter (cc := cX3_changed) (maxL := 1) (ret := none) (by decide) rfl (Nat.le_of_ble_eq_true rfl) ?_
  intro p e s m args below meth c ls S hr hlk _ hB hl
  have S : CallFix p m c cX3_changed 1 s args wsX3_changed RX3 := S
  obtain ⟨hP, hK⟩ := hB
  have hl : lv_has ls 1 [(0, .ref (κ 0))] := hl
  have hS : va_S (gA 31 κ) s.heap s.heap [] := va_S.rf
  have hA : ∀ k, k < 31 → gA 31 κ (κ k) := gA_in
  obtain ⟨hx, hb, hml, hown, hts⟩ := id S
  have hiX0 : ∀ w ∈ u_ws RX0 TX0 11, w ∈ wsX3_changed := by decide +kernel
  have hiX1 : ∀ w ∈ u_ws RX1 TX1 4, w ∈ wsX3_changed := by decide +kernel
  have hiX3 : ∀ w ∈ u_ws RX3 TX3 3, w ∈ wsX3_changed := by decide +kernel
  unfold fn_X3_changed at hf
  refine lv_aload_n hx hb dX3_changed_0 rfl (lv_at hl 0 rfl) ?_
  refine g_get (q := 0) (ci := 3) (k := 1) (ref := RX3) (C := RX3) (T := TX3) (N := 3) (index := 21) (v := .ref (κ 2)) S hK hP hiX3 (by decide) rfl rfl (by decide) rfl (by decide +kernel) rfl dX3_changed_1 ?_
  refine lv_iconst (v := 0) hx hb dX3_changed_4 (by decide) ?_
  obtain ⟨σ1, eσ1, hf⟩ := letb_w hf
  refine g_putN (q := 2) (ci := 1) (k := 3) (ref := RX1) (C := RX1) (T := TX1) (N := 4) (index := 188) (ty := .boolean) (f' := (xC cI cII κ σ1)) S hK hP hκ hA hS hiX1 tyX1_ok nmX1 (by decide) rfl rfl (by decide) rfl hK.2.2.2.2.1 rfl (by decide +kernel) rfl rfl (Nat.le_of_ble_eq_true rfl) (fun j _ => by rw [eσ1]; exact xC_p2 j) dX3_changed_5 (fun H locs hP hS => ?_)
  refine lv_aload_n hx hb dX3_changed_8 rfl (lv_at hl 0 rfl) ?_
  refine g_get (q := 0) (ci := 3) (k := 2) (ref := RX3) (C := RX3) (T := TX3) (N := 3) (index := 30) (v := .ref (κ 3)) S hK hP hiX3 (by decide) rfl rfl (by decide) rfl (by decide +kernel) rfl dX3_changed_9 ?_
  refine lv_iconst (v := 0) hx hb dX3_changed_12 (by decide) ?_
  obtain ⟨σ2, eσ2, hf⟩ := letb_w hf
  refine g_putN (q := 3) (ci := 0) (k := 2) (ref := RX0) (C := RX0) (T := TX0) (N := 11) (index := 128) (ty := .boolean) (f' := (xC cI cII κ σ2)) S hK hP hκ hA hS hiX0 tyX0_ok nmX0 (by decide) rfl rfl (by decide) rfl hK.2.2.2.2.2.1 rfl (by decide +kernel) rfl rfl (Nat.le_of_ble_eq_true rfl) (fun j _ => by rw [eσ2]; exact xC_p3 j) dX3_changed_13 (fun H locs hP hS => ?_)
  obtain rfl := Option.some.inj hf
  exact g_vret S hr hlk hK hP hS dX3_changed_16

set_option maxRecDepth 100000 in
set_option maxHeartbeats 4000000 in
theorem met_X3_reached (l : Launch) (D : va_G) (cI cII : ClassId) (κ : Nat → Nat) (hκ : Inj 31 κ) (σ : SX)  (r : Int32) (hf : fn_X3_reached σ  = some r) : Met l yX3_reached wsX3_reached ({ frames := 3, cells := 0, slots := 0, locals := 68 } : Room) (va_Pc [.ref (κ 0)] (xP D cI cII κ σ)) (QI D cI cII 31 κ (xC cI cII κ σ) r) 0 0 (gA 31 κ) := by
  refine g_enter (cc := cX3_reached) (maxL := 1) (ret := (some .int)) (by decide) rfl (Nat.le_of_ble_eq_true rfl) ?_
  intro p e s m args below meth c ls S hr hlk _ hB hl
  have S : CallFix p m c cX3_reached 1 s args wsX3_reached RX3 := S
  obtain ⟨hP, hK⟩ := hB
  have hl : lv_has ls 1 [(0, .ref (κ 0))] := hl
  have hS : va_S (gA 31 κ) s.heap s.heap [] := va_S.rf
  have hA : ∀ k, k < 31 → gA 31 κ (κ k) := gA_in
  obtain ⟨hx, hb, hml, hown, hts⟩ := id S
  have hiX3 : ∀ w ∈ u_ws RX3 TX3 3, w ∈ wsX3_reached := by decide +kernel
  unfold fn_X3_reached at hf
  refine lv_aload_n hx hb dX3_reached_0 rfl (lv_at hl 0 rfl) ?_
  refine g_get (q := 0) (ci := 3) (k := 0) (ref := RX3) (C := RX3) (T := TX3) (N := 3) (index := 10) (v := .ref (κ 1)) S hK hP hiX3 (by decide) rfl rfl (by decide) rfl (by decide +kernel) rfl dX3_reached_1 ?_
  obtain ⟨v1, hq4, hf⟩ := obw hf
  refine g_calli (va_runV (As := []) (rest := []) S (met_X2_reachedStates l D cI cII κ hκ σ v1 hq4) (cwV 0 S.2.2.2.2 gX3_reached_X2_reachedStates rfl rfl rfl (by decide +kernel) ⟨Nat.le_of_ble_eq_true rfl, Nat.le_of_ble_eq_true rfl⟩) (g_preV (N := 5) (T := TX2) hK hP (Nat.le_refl _) (by decide) rfl rfl) rfl rfl hl.1 rfl (lv_room (Nat.le_of_ble_eq_true rfl)) dX3_reached_4 ⟨Nat.le_of_ble_eq_true rfl, Nat.le_of_ble_eq_true rfl⟩) (Nat.le_refl _) hκ hA hP hS (fun j h1 h2 => absurd h2 (Nat.not_lt.mpr h1)) (fun H locs hP hS => ?_)
  exact g_iret S hr hlk hK hP hS (Option.some.inj hf) dX3_reached_7

set_option maxRecDepth 100000 in
set_option maxHeartbeats 4000000 in
theorem met_X3_regionCount (l : Launch) (D : va_G) (cI cII : ClassId) (κ : Nat → Nat) (hκ : Inj 31 κ) (σ : SX)  (r : Int32) (σ' : SX) (hf : fn_X3_regionCount σ  = some (r, σ')) : Met l yX3_regionCount wsX3_regionCount ({ frames := 4, cells := 0, slots := 0, locals := 89 } : Room) (va_Pc [.ref (κ 0)] (xP D cI cII κ σ)) (QI D cI cII 31 κ (xC cI cII κ σ') r) 0 0 (gA 31 κ) := by
  refine g_enter (cc := cX3_regionCount) (maxL := 1) (ret := (some .int)) (by decide) rfl (Nat.le_of_ble_eq_true rfl) ?_
  intro p e s m args below meth c ls S hr hlk _ hB hl
  have S : CallFix p m c cX3_regionCount 1 s args wsX3_regionCount RX3 := S
  obtain ⟨hP, hK⟩ := hB
  have hl : lv_has ls 1 [(0, .ref (κ 0))] := hl
  have hS : va_S (gA 31 κ) s.heap s.heap [] := va_S.rf
  have hA : ∀ k, k < 31 → gA 31 κ (κ k) := gA_in
  obtain ⟨hx, hb, hml, hown, hts⟩ := id S
  have hiX3 : ∀ w ∈ u_ws RX3 TX3 3, w ∈ wsX3_regionCount := by decide +kernel
  unfold fn_X3_regionCount at hf
  refine lv_aload_n hx hb dX3_regionCount_0 rfl (lv_at hl 0 rfl) ?_
  refine g_get (q := 0) (ci := 3) (k := 1) (ref := RX3) (C := RX3) (T := TX3) (N := 3) (index := 21) (v := .ref (κ 2)) S hK hP hiX3 (by decide) rfl rfl (by decide) rfl (by decide +kernel) rfl dX3_regionCount_1 ?_
  obtain ⟨v2, σ1, hq4, hf⟩ := bind2_w hf
  refine g_calli (va_runV (As := []) (rest := []) S (met_X1_count l D cI cII κ hκ σ v2 σ1 hq4) (cwV 0 S.2.2.2.2 gX3_regionCount_X1_count rfl rfl rfl (by decide +kernel) ⟨Nat.le_of_ble_eq_true rfl, Nat.le_of_ble_eq_true rfl⟩) (g_preV (N := 4) (T := TX1) hK hP (Nat.le_refl _) (by decide) rfl rfl) rfl rfl hl.1 rfl (lv_room (Nat.le_of_ble_eq_true rfl)) dX3_regionCount_4 ⟨Nat.le_of_ble_eq_true rfl, Nat.le_of_ble_eq_true rfl⟩) (Nat.le_refl _) hκ hA hP hS (fun j h1 h2 => absurd h2 (Nat.not_lt.mpr h1)) (fun H locs hP hS => ?_)
  obtain ⟨h8, h9⟩ := Prod.mk.inj (Option.some.inj hf)
  subst h9
  exact g_iret S hr hlk hK hP hS h8 dX3_regionCount_7

set_option maxRecDepth 100000 in
set_option maxHeartbeats 4000000 in
theorem met_X3_lumps (l : Launch) (D : va_G) (cI cII : ClassId) (κ : Nat → Nat) (hκ : Inj 31 κ) (σ : SX)  (r : Int32) (σ' : SX) (hf : fn_X3_lumps σ  = some (r, σ')) : Met l yX3_lumps wsX3_lumps ({ frames := 6, cells := 0, slots := 0, locals := 136 } : Room) (va_Pc [.ref (κ 0)] (xP D cI cII κ σ)) (QI D cI cII 31 κ (xC cI cII κ σ') r) 0 0 (gA 31 κ) := by
  refine g_enter (cc := cX3_lumps) (maxL := 1) (ret := (some .int)) (by decide) rfl (Nat.le_of_ble_eq_true rfl) ?_
  intro p e s m args below meth c ls S hr hlk _ hB hl
  have S : CallFix p m c cX3_lumps 1 s args wsX3_lumps RX3 := S
  obtain ⟨hP, hK⟩ := hB
  have hl : lv_has ls 1 [(0, .ref (κ 0))] := hl
  have hS : va_S (gA 31 κ) s.heap s.heap [] := va_S.rf
  have hA : ∀ k, k < 31 → gA 31 κ (κ k) := gA_in
  obtain ⟨hx, hb, hml, hown, hts⟩ := id S
  have hiX3 : ∀ w ∈ u_ws RX3 TX3 3, w ∈ wsX3_lumps := by decide +kernel
  unfold fn_X3_lumps at hf
  refine lv_aload_n hx hb dX3_lumps_0 rfl (lv_at hl 0 rfl) ?_
  refine g_get (q := 0) (ci := 3) (k := 1) (ref := RX3) (C := RX3) (T := TX3) (N := 3) (index := 21) (v := .ref (κ 2)) S hK hP hiX3 (by decide) rfl rfl (by decide) rfl (by decide +kernel) rfl dX3_lumps_1 ?_
  obtain ⟨v2, σ1, hq4, hf⟩ := bind2_w hf
  refine g_calli (va_runV (As := []) (rest := []) S (met_X1_pairsNotApart l D cI cII κ hκ σ v2 σ1 hq4) (cwV 0 S.2.2.2.2 gX3_lumps_X1_pairsNotApart rfl rfl rfl (by decide +kernel) ⟨Nat.le_of_ble_eq_true rfl, Nat.le_of_ble_eq_true rfl⟩) (g_preV (N := 4) (T := TX1) hK hP (Nat.le_refl _) (by decide) rfl rfl) rfl rfl hl.1 rfl (lv_room (Nat.le_of_ble_eq_true rfl)) dX3_lumps_4 ⟨Nat.le_of_ble_eq_true rfl, Nat.le_of_ble_eq_true rfl⟩) (Nat.le_refl _) hκ hA hP hS (fun j h1 h2 => absurd h2 (Nat.not_lt.mpr h1)) (fun H locs hP hS => ?_)
  obtain ⟨h8, h9⟩ := Prod.mk.inj (Option.some.inj hf)
  subst h9
  exact g_iret S hr hlk hK hP hS h8 dX3_lumps_7

set_option maxRecDepth 100000 in
set_option maxHeartbeats 4000000 in
theorem met_X3_leaks (l : Launch) (D : va_G) (cI cII : ClassId) (κ : Nat → Nat) (hκ : Inj 31 κ) (σ : SX)  (r : Int32) (σ' : SX) (hf : fn_X3_leaks σ  = some (r, σ')) : Met l yX3_leaks wsX3_leaks ({ frames := 6, cells := 0, slots := 0, locals := 136 } : Room) (va_Pc [.ref (κ 0)] (xP D cI cII κ σ)) (QI D cI cII 31 κ (xC cI cII κ σ') r) 0 0 (gA 31 κ) := by
  refine g_enter (cc := cX3_leaks) (maxL := 1) (ret := (some .int)) (by decide) rfl (Nat.le_of_ble_eq_true rfl) ?_
  intro p e s m args below meth c ls S hr hlk _ hB hl
  have S : CallFix p m c cX3_leaks 1 s args wsX3_leaks RX3 := S
  obtain ⟨hP, hK⟩ := hB
  have hl : lv_has ls 1 [(0, .ref (κ 0))] := hl
  have hS : va_S (gA 31 κ) s.heap s.heap [] := va_S.rf
  have hA : ∀ k, k < 31 → gA 31 κ (κ k) := gA_in
  obtain ⟨hx, hb, hml, hown, hts⟩ := id S
  have hiX3 : ∀ w ∈ u_ws RX3 TX3 3, w ∈ wsX3_leaks := by decide +kernel
  unfold fn_X3_leaks at hf
  refine lv_aload_n hx hb dX3_leaks_0 rfl (lv_at hl 0 rfl) ?_
  refine g_get (q := 0) (ci := 3) (k := 1) (ref := RX3) (C := RX3) (T := TX3) (N := 3) (index := 21) (v := .ref (κ 2)) S hK hP hiX3 (by decide) rfl rfl (by decide) rfl (by decide +kernel) rfl dX3_leaks_1 ?_
  obtain ⟨v2, σ1, hq4, hf⟩ := bind2_w hf
  refine g_calli (va_runV (As := []) (rest := []) S (met_X1_pairsNotPrevented l D cI cII κ hκ σ v2 σ1 hq4) (cwV 0 S.2.2.2.2 gX3_leaks_X1_pairsNotPrevented rfl rfl rfl (by decide +kernel) ⟨Nat.le_of_ble_eq_true rfl, Nat.le_of_ble_eq_true rfl⟩) (g_preV (N := 4) (T := TX1) hK hP (Nat.le_refl _) (by decide) rfl rfl) rfl rfl hl.1 rfl (lv_room (Nat.le_of_ble_eq_true rfl)) dX3_leaks_4 ⟨Nat.le_of_ble_eq_true rfl, Nat.le_of_ble_eq_true rfl⟩) (Nat.le_refl _) hκ hA hP hS (fun j h1 h2 => absurd h2 (Nat.not_lt.mpr h1)) (fun H locs hP hS => ?_)
  obtain ⟨h8, h9⟩ := Prod.mk.inj (Option.some.inj hf)
  subst h9
  exact g_iret S hr hlk hK hP hS h8 dX3_leaks_7

set_option maxRecDepth 100000 in
set_option maxHeartbeats 4000000 in
theorem met_X3_makeNet (l : Launch) (D : va_G) (cI cII : ClassId) (κ : Nat → Nat) (hκ : Inj 31 κ) (σ : SX)  (r : Int32) (σ' : SX) (hf : fn_X3_makeNet σ  = some (r, σ')) : Met l yX3_makeNet wsX3_makeNet ({ frames := 6, cells := 0, slots := 0, locals := 133 } : Room) (va_Pc [.ref (κ 0)] (xP D cI cII κ σ)) (QI D cI cII 31 κ (xC cI cII κ σ') r) 0 0 (gA 31 κ) := by
  refine g_enter (cc := cX3_makeNet) (maxL := 1) (ret := (some .int)) (by decide) rfl (Nat.le_of_ble_eq_true rfl) ?_
  intro p e s m args below meth c ls S hr hlk _ hB hl
  have S : CallFix p m c cX3_makeNet 1 s args wsX3_makeNet RX3 := S
  obtain ⟨hP, hK⟩ := hB
  have hl : lv_has ls 1 [(0, .ref (κ 0))] := hl
  have hS : va_S (gA 31 κ) s.heap s.heap [] := va_S.rf
  have hA : ∀ k, k < 31 → gA 31 κ (κ k) := gA_in
  obtain ⟨hx, hb, hml, hown, hts⟩ := id S
  have hiX0 : ∀ w ∈ u_ws RX0 TX0 11, w ∈ wsX3_makeNet := by decide +kernel
  have hiX3 : ∀ w ∈ u_ws RX3 TX3 3, w ∈ wsX3_makeNet := by decide +kernel
  unfold fn_X3_makeNet at hf
  refine lv_aload_n hx hb dX3_makeNet_0 rfl (lv_at hl 0 rfl) ?_
  refine g_get (q := 0) (ci := 3) (k := 2) (ref := RX3) (C := RX3) (T := TX3) (N := 3) (index := 30) (v := .ref (κ 3)) S hK hP hiX3 (by decide) rfl rfl (by decide) rfl (by decide +kernel) rfl dX3_makeNet_1 ?_
  refine g_getN (q := 3) (ci := 0) (k := 2) (ref := RX0) (C := RX0) (T := TX0) (N := 11) (index := 128) (v := .int ((σ.1 3))) S hK hP hiX0 (by decide) rfl rfl (by decide) rfl hK.2.2.2.2.2.1 rfl dX3_makeNet_4 ?_
  obtain ⟨K17, hK17, hf⟩ := letb_w hf
  have J17 : ∀ (τ_17 : SX), K17 τ_17 = some (r, σ') → ∀ (H : Heap) (locs : List Loc) (ls : Array Slot), va_P D vwCl (gw 31 κ (xC cI cII κ τ_17)) H → va_S (gA 31 κ) s.heap H locs → lv_has ls 1 [(0, .ref (κ 0))] → W p l e ({ frames := 6, cells := 0, slots := 0, locals := 133 } : Room) s m args below meth c H locs 0 0 (MQ below (QI D cI cII 31 κ (xC cI cII κ σ') r) args s 0 0 (gA 31 κ)) (F0 m 17 ls []) := by
    intro τ_17 hf H locs ls hP hS hl
    rw [hK17] at hf
    refine lv_aload_n hx hb dX3_makeNet_17 rfl (lv_at hl 0 rfl) ?_
    refine g_get (q := 0) (ci := 3) (k := 2) (ref := RX3) (C := RX3) (T := TX3) (N := 3) (index := 30) (v := .ref (κ 3)) S hK hP hiX3 (by decide) rfl rfl (by decide) rfl (by decide +kernel) rfl dX3_makeNet_18 ?_
    refine lv_aload_n hx hb dX3_makeNet_21 rfl (lv_at hl 0 rfl) ?_
    refine g_get (q := 0) (ci := 3) (k := 2) (ref := RX3) (C := RX3) (T := TX3) (N := 3) (index := 30) (v := .ref (κ 3)) S hK hP hiX3 (by decide) rfl rfl (by decide) rfl (by decide +kernel) rfl dX3_makeNet_22 ?_
    refine g_getN (q := 3) (ci := 0) (k := 7) (ref := RX0) (C := RX0) (T := TX0) (N := 11) (index := 135) (v := .int ((τ_17.1 5))) S hK hP hiX0 (by decide) rfl rfl (by decide) rfl hK.2.2.2.2.2.2.2.1 rfl dX3_makeNet_25 ?_
    obtain ⟨σ1, eσ1, hf⟩ := letb_w hf
    refine g_putN (q := 3) (ci := 0) (k := 8) (ref := RX0) (C := RX0) (T := TX0) (N := 11) (index := 138) (ty := .int) (f' := (xC cI cII κ σ1)) S hK hP hκ hA hS hiX0 tyX0_ok nmX0 (by decide) rfl rfl (by decide) rfl hK.2.2.2.2.2.2.2.2.1 rfl (by decide +kernel) rfl rfl (Nat.le_of_ble_eq_true rfl) (fun j _ => by rw [eσ1]; exact xC_p6 j) dX3_makeNet_28 (fun H locs hP hS => ?_)
    refine lv_aload_n hx hb dX3_makeNet_31 rfl (lv_at hl 0 rfl) ?_
    refine g_get (q := 0) (ci := 3) (k := 2) (ref := RX3) (C := RX3) (T := TX3) (N := 3) (index := 30) (v := .ref (κ 3)) S hK hP hiX3 (by decide) rfl rfl (by decide) rfl (by decide +kernel) rfl dX3_makeNet_32 ?_
    refine g_getN (q := 3) (ci := 0) (k := 3) (ref := RX0) (C := RX0) (T := TX0) (N := 11) (index := 141) (v := .int ((σ1.1 4))) S hK hP hiX0 (by decide) rfl rfl (by decide) rfl hK.2.2.2.2.2.2.1 rfl dX3_makeNet_35 ?_
    obtain ⟨h8, h9⟩ := Prod.mk.inj (Option.some.inj hf)
    subst h9
    exact g_iret S hr hlk hK hP hS h8 dX3_makeNet_38
  refine lv_if_ne (tgt := 17) hx hb dX3_makeNet_7 (by decide) (fun c7 => ?_) (fun c7 => ?_)
  · have hf := iteT c7 hf
    exact J17 _ hf _ _ _ hP hS (lv_sub hl [0] rfl)
  · have hf := iteN c7 hf
    refine lv_aload_n hx hb dX3_makeNet_10 rfl (lv_at hl 0 rfl) ?_
    refine g_get (q := 0) (ci := 3) (k := 2) (ref := RX3) (C := RX3) (T := TX3) (N := 3) (index := 30) (v := .ref (κ 3)) S hK hP hiX3 (by decide) rfl rfl (by decide) rfl (by decide +kernel) rfl dX3_makeNet_11 ?_
    obtain ⟨σ2, hq14, hf⟩ := obw hf
    refine g_callv (va_runV (As := []) (rest := []) S (met_X0_make l D cI cII κ hκ σ σ2 hq14) (cwV 0 S.2.2.2.2 gX3_makeNet_X0_make rfl rfl rfl (by decide +kernel) ⟨Nat.le_of_ble_eq_true rfl, Nat.le_of_ble_eq_true rfl⟩) (g_preV (N := 11) (T := TX0) hK hP (Nat.le_refl _) (by decide) rfl rfl) rfl rfl hl.1 rfl (lv_room (Nat.le_of_ble_eq_true rfl)) dX3_makeNet_14 ⟨Nat.le_of_ble_eq_true rfl, Nat.le_of_ble_eq_true rfl⟩) (Nat.le_refl _) hκ hA hP hS (fun j h1 h2 => absurd h2 (Nat.not_lt.mpr h1)) (fun H locs hP hS => ?_)
    exact J17 _ hf _ _ _ hP hS (lv_sub hl [0] rfl)

set_option maxRecDepth 100000 in
set_option maxHeartbeats 4000000 in
theorem met_X3_stateCount (l : Launch) (D : va_G) (cI cII : ClassId) (κ : Nat → Nat) (hκ : Inj 31 κ) (σ : SX)  (r : Int32) (hf : fn_X3_stateCount σ  = some r) : Met l yX3_stateCount wsX3_stateCount ({ frames := 0, cells := 0, slots := 0, locals := 0 } : Room) (va_Pc [.ref (κ 0)] (xP D cI cII κ σ)) (QI D cI cII 31 κ (xC cI cII κ σ) r) 0 0 (gA 31 κ) := by
  refine g_enter (cc := cX3_stateCount) (maxL := 1) (ret := (some .int)) (by decide) rfl (Nat.le_of_ble_eq_true rfl) ?_
  intro p e s m args below meth c ls S hr hlk _ hB hl
  have S : CallFix p m c cX3_stateCount 1 s args wsX3_stateCount RX3 := S
  obtain ⟨hP, hK⟩ := hB
  have hl : lv_has ls 1 [(0, .ref (κ 0))] := hl
  have hS : va_S (gA 31 κ) s.heap s.heap [] := va_S.rf
  have hA : ∀ k, k < 31 → gA 31 κ (κ k) := gA_in
  obtain ⟨hx, hb, hml, hown, hts⟩ := id S
  have hiX2 : ∀ w ∈ u_ws RX2 TX2 5, w ∈ wsX3_stateCount := by decide +kernel
  have hiX3 : ∀ w ∈ u_ws RX3 TX3 3, w ∈ wsX3_stateCount := by decide +kernel
  unfold fn_X3_stateCount at hf
  refine lv_aload_n hx hb dX3_stateCount_0 rfl (lv_at hl 0 rfl) ?_
  refine g_get (q := 0) (ci := 3) (k := 0) (ref := RX3) (C := RX3) (T := TX3) (N := 3) (index := 10) (v := .ref (κ 1)) S hK hP hiX3 (by decide) rfl rfl (by decide) rfl (by decide +kernel) rfl dX3_stateCount_1 ?_
  refine g_getN (q := 1) (ci := 2) (k := 0) (ref := RX2) (C := RX2) (T := TX2) (N := 5) (index := 34) (v := .int ((σ.1 0))) S hK hP hiX2 (by decide) rfl rfl (by decide) rfl hK.2.1 rfl dX3_stateCount_4 ?_
  exact g_iret S hr hlk hK hP hS (Option.some.inj hf) dX3_stateCount_7
