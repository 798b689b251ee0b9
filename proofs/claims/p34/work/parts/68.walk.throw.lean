/-! by wip/p34/gen.py: walks: the machine computes the pure functions -/
set_option maxRecDepth 100000 in
set_option maxHeartbeats 4000000 in
theorem met_X3_needState (l : Launch) (D : va_G) (cI cII : ClassId) (κ : Nat → Nat) (hκ : Inj 31 κ) (σ : SX) (p1 : Int32) (σ' : SX) (hf : fn_X3_needState σ p1 = some σ') : Met l yX3_needState wsX3_needState ({ frames := 0, cells := 0, slots := 0, locals := 0 } : Room) (va_Pc [.ref (κ 0), .int p1] (xP D cI cII κ σ)) (QV D cI cII 31 κ (xC cI cII κ σ')) 0 0 (gA 31 κ) := by
  refine g_enter (cc := cX3_needState) (maxL := 2) (ret := none) (by decide) rfl (Nat.le_of_ble_eq_true rfl) ?_
  intro p e s m args below meth c ls S hr hlk _ hB hl
  have S : CallFix p m c cX3_needState 2 s args wsX3_needState RX3 := S
  obtain ⟨hP, hK⟩ := hB
  have hl : lv_has ls 2 [(0, .ref (κ 0)), (1, .int p1)] := hl
  have hS : va_S (gA 31 κ) s.heap s.heap [] := va_S.rf
  have hA : ∀ k, k < 31 → gA 31 κ (κ k) := gA_in
  obtain ⟨hx, hb, hml, hown, hts⟩ := id S
  have hiX2 : ∀ w ∈ u_ws RX2 TX2 5, w ∈ wsX3_needState := by decide +kernel
  have hiX3 : ∀ w ∈ u_ws RX3 TX3 3, w ∈ wsX3_needState := by decide +kernel
  unfold fn_X3_needState at hf
  refine lv_iload_n hx hb dX3_needState_0 rfl (lv_at hl 1 rfl) ?_
  obtain ⟨K15, hK15, hf⟩ := letb_w hf
  have J15 : ∀ (_u : Unit), K15 _u = some σ' → ∀ (H : Heap) (locs : List Loc) (ls : Array Slot), va_P D vwCl (gw 31 κ (xC cI cII κ σ)) H → va_S (gA 31 κ) s.heap H locs → lv_has ls 2 [] → W p l e ({ frames := 0, cells := 0, slots := 0, locals := 0 } : Room) s m args below meth c H locs 0 0 (MQ below (QV D cI cII 31 κ (xC cI cII κ σ')) args s 0 0 (gA 31 κ)) (F0 m 15 ls []) := by
    intro _u hf H locs ls hP hS hl
    rw [hK15] at hf
    cases hf
  refine lv_if_lt (tgt := 15) hx hb dX3_needState_1 (by decide) (fun c1 => ?_) (fun c1 => ?_)
  · have hf := iteT c1 hf
    exact J15 _ hf _ _ _ hP hS (lv_sub hl [] rfl)
  · have hf := iteF c1 hf
    refine lv_iload_n hx hb dX3_needState_4 rfl (lv_at hl 1 rfl) ?_
    refine lv_aload_n hx hb dX3_needState_5 rfl (lv_at hl 0 rfl) ?_
    refine g_get (q := 0) (ci := 3) (k := 0) (ref := RX3) (C := RX3) (T := TX3) (N := 3) (index := 10) (v := .ref (κ 1)) S hK hP hiX3 (by decide) rfl rfl (by decide) rfl (by decide +kernel) rfl dX3_needState_6 ?_
    refine g_getN (q := 1) (ci := 2) (k := 0) (ref := RX2) (C := RX2) (T := TX2) (N := 5) (index := 34) (v := .int ((σ.1 0))) S hK hP hiX2 (by decide) rfl rfl (by decide) rfl hK.2.1 rfl dX3_needState_9 ?_
    refine lv_icmp_lt (tgt := 25) hx hb dX3_needState_12 (by decide) (fun c12 => ?_) (fun c12 => ?_)
    · have hf := iteT c12 hf
      obtain rfl := Option.some.inj hf
      exact g_vret S hr hlk hK hP hS dX3_needState_25
    · have hf := iteF c12 hf
      exact J15 _ hf _ _ _ hP hS (lv_sub hl [] rfl)

set_option maxRecDepth 100000 in
set_option maxHeartbeats 4000000 in
theorem met_X3_needLabel (l : Launch) (D : va_G) (cI cII : ClassId) (κ : Nat → Nat) (hκ : Inj 31 κ) (σ : SX) (p1 : Int32) (σ' : SX) (hf : fn_X3_needLabel σ p1 = some σ') : Met l yX3_needLabel wsX3_needLabel ({ frames := 0, cells := 0, slots := 0, locals := 0 } : Room) (va_Pc [.int p1] (xP D cI cII κ σ)) (QV D cI cII 31 κ (xC cI cII κ σ')) 0 0 (gA 31 κ) := by
  refine g_enter (cc := cX3_needLabel) (maxL := 1) (ret := none) (by decide) rfl (Nat.le_of_ble_eq_true rfl) ?_
  intro p e s m args below meth c ls S hr hlk _ hB hl
  have S : CallFix p m c cX3_needLabel 1 s args wsX3_needLabel RX3 := S
  obtain ⟨hP, hK⟩ := hB
  have hl : lv_has ls 1 [(0, .int p1)] := hl
  have hS : va_S (gA 31 κ) s.heap s.heap [] := va_S.rf
  have hA : ∀ k, k < 31 → gA 31 κ (κ k) := gA_in
  obtain ⟨hx, hb, hml, hown, hts⟩ := id S
  unfold fn_X3_needLabel at hf
  refine lv_iload_n hx hb dX3_needLabel_0 rfl (lv_at hl 0 rfl) ?_
  obtain ⟨K10, hK10, hf⟩ := letb_w hf
  have J10 : ∀ (_u : Unit), K10 _u = some σ' → ∀ (H : Heap) (locs : List Loc) (ls : Array Slot), va_P D vwCl (gw 31 κ (xC cI cII κ σ)) H → va_S (gA 31 κ) s.heap H locs → lv_has ls 1 [] → W p l e ({ frames := 0, cells := 0, slots := 0, locals := 0 } : Room) s m args below meth c H locs 0 0 (MQ below (QV D cI cII 31 κ (xC cI cII κ σ')) args s 0 0 (gA 31 κ)) (F0 m 10 ls []) := by
    intro _u hf H locs ls hP hS hl
    rw [hK10] at hf
    cases hf
  refine lv_if_lt (tgt := 10) hx hb dX3_needLabel_1 (by decide) (fun c1 => ?_) (fun c1 => ?_)
  · have hf := iteT c1 hf
    exact J10 _ hf _ _ _ hP hS (lv_sub hl [] rfl)
  · have hf := iteF c1 hf
    refine lv_iload_n hx hb dX3_needLabel_4 rfl (lv_at hl 0 rfl) ?_
    refine lv_bipush (v := 6) hx hb dX3_needLabel_5 (by decide) ?_
    refine lv_icmp_lt (tgt := 20) hx hb dX3_needLabel_7 (by decide) (fun c7 => ?_) (fun c7 => ?_)
    · have hf := iteT c7 hf
      obtain rfl := Option.some.inj hf
      exact g_vret S hr hlk hK hP hS dX3_needLabel_20
    · have hf := iteF c7 hf
      exact J10 _ hf _ _ _ hP hS (lv_sub hl [] rfl)

set_option maxRecDepth 100000 in
set_option maxHeartbeats 4000000 in
theorem met_X3_needSet (l : Launch) (D : va_G) (cI cII : ClassId) (κ : Nat → Nat) (hκ : Inj 31 κ) (σ : SX) (p1 : Int32) (σ' : SX) (hf : fn_X3_needSet σ p1 = some σ') : Met l yX3_needSet wsX3_needSet ({ frames := 1, cells := 0, slots := 0, locals := 20 } : Room) (va_Pc [.ref (κ 0), .int p1] (xP D cI cII κ σ)) (QV D cI cII 31 κ (xC cI cII κ σ')) 0 0 (gA 31 κ) := by
  refine g_enter (cc := cX3_needSet) (maxL := 2) (ret := none) (by decide) rfl (Nat.le_of_ble_eq_true rfl) ?_
  intro p e s m args below meth c ls S hr hlk _ hB hl
  have S : CallFix p m c cX3_needSet 2 s args wsX3_needSet RX3 := S
  obtain ⟨hP, hK⟩ := hB
  have hl : lv_has ls 2 [(0, .ref (κ 0)), (1, .int p1)] := hl
  have hS : va_S (gA 31 κ) s.heap s.heap [] := va_S.rf
  have hA : ∀ k, k < 31 → gA 31 κ (κ k) := gA_in
  obtain ⟨hx, hb, hml, hown, hts⟩ := id S
  have hiX3 : ∀ w ∈ u_ws RX3 TX3 3, w ∈ wsX3_needSet := by decide +kernel
  unfold fn_X3_needSet at hf
  refine lv_iload_n hx hb dX3_needSet_0 rfl (lv_at hl 1 rfl) ?_
  obtain ⟨K15, hK15, hf⟩ := letb_w hf
  have J15 : ∀ (_u : Unit), K15 _u = some σ' → ∀ (H : Heap) (locs : List Loc) (ls : Array Slot), va_P D vwCl (gw 31 κ (xC cI cII κ σ)) H → va_S (gA 31 κ) s.heap H locs → lv_has ls 2 [] → W p l e ({ frames := 1, cells := 0, slots := 0, locals := 20 } : Room) s m args below meth c H locs 0 0 (MQ below (QV D cI cII 31 κ (xC cI cII κ σ')) args s 0 0 (gA 31 κ)) (F0 m 15 ls []) := by
    intro _u hf H locs ls hP hS hl
    rw [hK15] at hf
    cases hf
  refine lv_if_lt (tgt := 15) hx hb dX3_needSet_1 (by decide) (fun c1 => ?_) (fun c1 => ?_)
  · have hf := iteT c1 hf
    exact J15 _ hf _ _ _ hP hS (lv_sub hl [] rfl)
  · have hf := iteF c1 hf
    refine lv_iload_n hx hb dX3_needSet_4 rfl (lv_at hl 1 rfl) ?_
    refine lv_aload_n hx hb dX3_needSet_5 rfl (lv_at hl 0 rfl) ?_
    refine g_get (q := 0) (ci := 3) (k := 0) (ref := RX3) (C := RX3) (T := TX3) (N := 3) (index := 10) (v := .ref (κ 1)) S hK hP hiX3 (by decide) rfl rfl (by decide) rfl (by decide +kernel) rfl dX3_needSet_6 ?_
    obtain ⟨v1, hq9, hf⟩ := obw hf
    refine g_calli (va_runV (As := []) (rest := [.int p1]) S (met_X2_all l D cI cII κ hκ σ v1 hq9) (cwV 0 S.2.2.2.2 gX3_needSet_X2_all rfl rfl rfl (by decide +kernel) ⟨Nat.le_of_ble_eq_true rfl, Nat.le_of_ble_eq_true rfl⟩) (g_preV (N := 5) (T := TX2) hK hP (Nat.le_refl _) (by decide) rfl rfl) rfl rfl hl.1 rfl (lv_room (Nat.le_of_ble_eq_true rfl)) dX3_needSet_9 ⟨Nat.le_of_ble_eq_true rfl, Nat.le_of_ble_eq_true rfl⟩) (Nat.le_refl _) hκ hA hP hS (fun j h1 h2 => absurd h2 (Nat.not_lt.mpr h1)) (fun H locs hP hS => ?_)
    refine lv_icmp_le (tgt := 25) hx hb dX3_needSet_12 (by decide) (fun c12 => ?_) (fun c12 => ?_)
    · have hf := iteT c12 hf
      obtain rfl := Option.some.inj hf
      exact g_vret S hr hlk hK hP hS dX3_needSet_25
    · have hf := iteF c12 hf
      exact J15 _ hf _ _ _ hP hS (lv_sub hl [] rfl)

set_option maxRecDepth 100000 in
set_option maxHeartbeats 4000000 in
theorem met_X3_needRegion (l : Launch) (D : va_G) (cI cII : ClassId) (κ : Nat → Nat) (hκ : Inj 31 κ) (σ : SX) (p1 : Int32) (σ' : SX) (hf : fn_X3_needRegion σ p1 = some σ') : Met l yX3_needRegion wsX3_needRegion ({ frames := 4, cells := 0, slots := 0, locals := 89 } : Room) (va_Pc [.ref (κ 0), .int p1] (xP D cI cII κ σ)) (QV D cI cII 31 κ (xC cI cII κ σ')) 0 0 (gA 31 κ) := by
  refine g_enter (cc := cX3_needRegion) (maxL := 2) (ret := none) (by decide) rfl (Nat.le_of_ble_eq_true rfl) ?_
  intro p e s m args below meth c ls S hr hlk _ hB hl
  have S : CallFix p m c cX3_needRegion 2 s args wsX3_needRegion RX3 := S
  obtain ⟨hP, hK⟩ := hB
  have hl : lv_has ls 2 [(0, .ref (κ 0)), (1, .int p1)] := hl
  have hS : va_S (gA 31 κ) s.heap s.heap [] := va_S.rf
  have hA : ∀ k, k < 31 → gA 31 κ (κ k) := gA_in
  obtain ⟨hx, hb, hml, hown, hts⟩ := id S
  have hiX3 : ∀ w ∈ u_ws RX3 TX3 3, w ∈ wsX3_needRegion := by decide +kernel
  unfold fn_X3_needRegion at hf
  refine lv_iload_n hx hb dX3_needRegion_0 rfl (lv_at hl 1 rfl) ?_
  obtain ⟨K15, hK15, hf⟩ := letb_w hf
  have J15 : ∀ (τ_15 : SX), K15 τ_15 = some σ' → ∀ (H : Heap) (locs : List Loc) (ls : Array Slot), va_P D vwCl (gw 31 κ (xC cI cII κ τ_15)) H → va_S (gA 31 κ) s.heap H locs → lv_has ls 2 [] → W p l e ({ frames := 4, cells := 0, slots := 0, locals := 89 } : Room) s m args below meth c H locs 0 0 (MQ below (QV D cI cII 31 κ (xC cI cII κ σ')) args s 0 0 (gA 31 κ)) (F0 m 15 ls []) := by
    intro τ_15 hf H locs ls hP hS hl
    rw [hK15] at hf
    cases hf
  refine lv_if_lt (tgt := 15) hx hb dX3_needRegion_1 (by decide) (fun c1 => ?_) (fun c1 => ?_)
  · have hf := iteT c1 hf
    exact J15 _ hf _ _ _ hP hS (lv_sub hl [] rfl)
  · have hf := iteF c1 hf
    refine lv_iload_n hx hb dX3_needRegion_4 rfl (lv_at hl 1 rfl) ?_
    refine lv_aload_n hx hb dX3_needRegion_5 rfl (lv_at hl 0 rfl) ?_
    refine g_get (q := 0) (ci := 3) (k := 1) (ref := RX3) (C := RX3) (T := TX3) (N := 3) (index := 21) (v := .ref (κ 2)) S hK hP hiX3 (by decide) rfl rfl (by decide) rfl (by decide +kernel) rfl dX3_needRegion_6 ?_
    obtain ⟨v2, σ1, hq9, hf⟩ := bind2_w hf
    refine g_calli (va_runV (As := []) (rest := [.int p1]) S (met_X1_count l D cI cII κ hκ σ v2 σ1 hq9) (cwV 0 S.2.2.2.2 gX3_needRegion_X1_count rfl rfl rfl (by decide +kernel) ⟨Nat.le_of_ble_eq_true rfl, Nat.le_of_ble_eq_true rfl⟩) (g_preV (N := 4) (T := TX1) hK hP (Nat.le_refl _) (by decide) rfl rfl) rfl rfl hl.1 rfl (lv_room (Nat.le_of_ble_eq_true rfl)) dX3_needRegion_9 ⟨Nat.le_of_ble_eq_true rfl, Nat.le_of_ble_eq_true rfl⟩) (Nat.le_refl _) hκ hA hP hS (fun j h1 h2 => absurd h2 (Nat.not_lt.mpr h1)) (fun H locs hP hS => ?_)
    refine lv_icmp_lt (tgt := 25) hx hb dX3_needRegion_12 (by decide) (fun c12 => ?_) (fun c12 => ?_)
    · have hf := iteT c12 hf
      obtain rfl := Option.some.inj hf
      exact g_vret S hr hlk hK hP hS dX3_needRegion_25
    · have hf := iteF c12 hf
      exact J15 _ hf _ _ _ hP hS (lv_sub hl [] rfl)

set_option maxRecDepth 100000 in
set_option maxHeartbeats 4000000 in
theorem met_X3_needNet (l : Launch) (D : va_G) (cI cII : ClassId) (κ : Nat → Nat) (hκ : Inj 31 κ) (σ : SX)  (σ' : SX) (hf : fn_X3_needNet σ  = some σ') : Met l yX3_needNet wsX3_needNet ({ frames := 0, cells := 0, slots := 0, locals := 0 } : Room) (va_Pc [.ref (κ 0)] (xP D cI cII κ σ)) (QV D cI cII 31 κ (xC cI cII κ σ')) 0 0 (gA 31 κ) := by
  refine g_enter (cc := cX3_needNet) (maxL := 1) (ret := none) (by decide) rfl (Nat.le_of_ble_eq_true rfl) ?_
  intro p e s m args below meth c ls S hr hlk _ hB hl
  have S : CallFix p m c cX3_needNet 1 s args wsX3_needNet RX3 := S
  obtain ⟨hP, hK⟩ := hB
  have hl : lv_has ls 1 [(0, .ref (κ 0))] := hl
  have hS : va_S (gA 31 κ) s.heap s.heap [] := va_S.rf
  have hA : ∀ k, k < 31 → gA 31 κ (κ k) := gA_in
  obtain ⟨hx, hb, hml, hown, hts⟩ := id S
  have hiX0 : ∀ w ∈ u_ws RX0 TX0 11, w ∈ wsX3_needNet := by decide +kernel
  have hiX3 : ∀ w ∈ u_ws RX3 TX3 3, w ∈ wsX3_needNet := by decide +kernel
  unfold fn_X3_needNet at hf
  refine lv_aload_n hx hb dX3_needNet_0 rfl (lv_at hl 0 rfl) ?_
  refine g_get (q := 0) (ci := 3) (k := 2) (ref := RX3) (C := RX3) (T := TX3) (N := 3) (index := 30) (v := .ref (κ 3)) S hK hP hiX3 (by decide) rfl rfl (by decide) rfl (by decide +kernel) rfl dX3_needNet_1 ?_
  refine g_getN (q := 3) (ci := 0) (k := 2) (ref := RX0) (C := RX0) (T := TX0) (N := 11) (index := 128) (v := .int ((σ.1 3))) S hK hP hiX0 (by decide) rfl rfl (by decide) rfl hK.2.2.2.2.2.1 rfl dX3_needNet_4 ?_
  refine lv_if_ne (tgt := 20) hx hb dX3_needNet_7 (by decide) (fun c7 => ?_) (fun c7 => ?_)
  · have hf := iteT c7 hf
    obtain rfl := Option.some.inj hf
    exact g_vret S hr hlk hK hP hS dX3_needNet_20
  · have hf := iteN c7 hf
    cases hf

set_option maxRecDepth 100000 in
set_option maxHeartbeats 4000000 in
theorem met_X3_addState (l : Launch) (D : va_G) (cI cII : ClassId) (κ : Nat → Nat) (hκ : Inj 31 κ) (σ : SX)  (r : Int32) (σ' : SX) (hf : fn_X3_addState σ  = some (r, σ')) : Met l yX3_addState wsX3_addState ({ frames := 1, cells := 0, slots := 0, locals := 20 } : Room) (va_Pc [.ref (κ 0)] (xP D cI cII κ σ)) (QI D cI cII 31 κ (xC cI cII κ σ') r) 0 0 (gA 31 κ) := by
  refine g_enter (cc := cX3_addState) (maxL := 2) (ret := (some .int)) (by decide) rfl (Nat.le_of_ble_eq_true rfl) ?_
  intro p e s m args below meth c ls S hr hlk _ hB hl
  have S : CallFix p m c cX3_addState 2 s args wsX3_addState RX3 := S
  obtain ⟨hP, hK⟩ := hB
  have hl : lv_has ls 2 [(0, .ref (κ 0))] := hl
  have hS : va_S (gA 31 κ) s.heap s.heap [] := va_S.rf
  have hA : ∀ k, k < 31 → gA 31 κ (κ k) := gA_in
  obtain ⟨hx, hb, hml, hown, hts⟩ := id S
  have hiX2 : ∀ w ∈ u_ws RX2 TX2 5, w ∈ wsX3_addState := by decide +kernel
  have hiX3 : ∀ w ∈ u_ws RX3 TX3 3, w ∈ wsX3_addState := by decide +kernel
  unfold fn_X3_addState at hf
  refine lv_aload_n hx hb dX3_addState_0 rfl (lv_at hl 0 rfl) ?_
  refine g_get (q := 0) (ci := 3) (k := 0) (ref := RX3) (C := RX3) (T := TX3) (N := 3) (index := 10) (v := .ref (κ 1)) S hK hP hiX3 (by decide) rfl rfl (by decide) rfl (by decide +kernel) rfl dX3_addState_1 ?_
  refine g_getN (q := 1) (ci := 2) (k := 0) (ref := RX2) (C := RX2) (T := TX2) (N := 5) (index := 34) (v := .int ((σ.1 0))) S hK hP hiX2 (by decide) rfl rfl (by decide) rfl hK.2.1 rfl dX3_addState_4 ?_
  refine lv_bipush (v := 12) hx hb dX3_addState_7 (by decide) ?_
  refine lv_icmp_lt (tgt := 22) hx hb dX3_addState_9 (by decide) (fun c9 => ?_) (fun c9 => ?_)
  · have hf := iteT c9 hf
    refine lv_aload_n hx hb dX3_addState_22 rfl (lv_at hl 0 rfl) ?_
    refine g_get (q := 0) (ci := 3) (k := 0) (ref := RX3) (C := RX3) (T := TX3) (N := 3) (index := 10) (v := .ref (κ 1)) S hK hP hiX3 (by decide) rfl rfl (by decide) rfl (by decide +kernel) rfl dX3_addState_23 ?_
    refine g_getN (q := 1) (ci := 2) (k := 0) (ref := RX2) (C := RX2) (T := TX2) (N := 5) (index := 34) (v := .int ((σ.1 0))) S hK hP hiX2 (by decide) rfl rfl (by decide) rfl hK.2.1 rfl dX3_addState_26 ?_
    obtain ⟨v1, ev1, hf⟩ := letb_w hf
    refine lv_nmi ev1 ?_
    refine lv_istore_n (lv' := [(1, .int v1), (0, .ref (κ 0))]) hx hb dX3_addState_29 rfl hl (by decide) rfl (fun ls hl => ?_)
    refine lv_aload_n hx hb dX3_addState_30 rfl (lv_at hl 1 rfl) ?_
    refine g_get (q := 0) (ci := 3) (k := 0) (ref := RX3) (C := RX3) (T := TX3) (N := 3) (index := 10) (v := .ref (κ 1)) S hK hP hiX3 (by decide) rfl rfl (by decide) rfl (by decide +kernel) rfl dX3_addState_31 ?_
    refine lv_iload_n hx hb dX3_addState_34 rfl (lv_at hl 0 rfl) ?_
    refine lv_iconst (v := 1) hx hb dX3_addState_35 (by decide) ?_
    refine lv_iadd hx hb dX3_addState_36 ?_
    obtain ⟨σ2, eσ2, hf⟩ := letb_w hf
    refine g_putN (q := 1) (ci := 2) (k := 0) (ref := RX2) (C := RX2) (T := TX2) (N := 5) (index := 34) (ty := .int) (f' := (xC cI cII κ σ2)) S hK hP hκ hA hS hiX2 tyX2_ok nmX2 (by decide) rfl rfl (by decide) rfl hK.2.1 rfl (by decide +kernel) rfl rfl (Nat.le_of_ble_eq_true rfl) (fun j _ => by rw [eσ2]; exact xC_p0 j) dX3_addState_37 (fun H locs hP hS => ?_)
    refine lv_aload_n hx hb dX3_addState_40 rfl (lv_at hl 1 rfl) ?_
    obtain ⟨σ3, hq41, hf⟩ := obw hf
    refine g_callv (va_runV (As := []) (rest := []) S (met_X3_changed l D cI cII κ hκ σ2 σ3 hq41) (cwV 0 S.2.2.2.2 gX3_addState_X3_changed rfl rfl rfl (by decide +kernel) ⟨Nat.le_of_ble_eq_true rfl, Nat.le_of_ble_eq_true rfl⟩) (g_preV (N := 3) (T := TX3) hK hP (Nat.le_refl _) (by decide) rfl rfl) rfl rfl hl.1 rfl (lv_room (Nat.le_of_ble_eq_true rfl)) dX3_addState_41 ⟨Nat.le_of_ble_eq_true rfl, Nat.le_of_ble_eq_true rfl⟩) (Nat.le_refl _) hκ hA hP hS (fun j h1 h2 => absurd h2 (Nat.not_lt.mpr h1)) (fun H locs hP hS => ?_)
    refine lv_iload_n hx hb dX3_addState_44 rfl (lv_at hl 0 rfl) ?_
    obtain ⟨h8, h9⟩ := Prod.mk.inj (Option.some.inj hf)
    subst h9
    exact g_iret S hr hlk hK hP hS h8 dX3_addState_45
  · have hf := iteF c9 hf
    cases hf

set_option maxRecDepth 100000 in
set_option maxHeartbeats 4000000 in
theorem met_X3_step (l : Launch) (D : va_G) (cI cII : ClassId) (κ : Nat → Nat) (hκ : Inj 31 κ) (σ : SX) (p1 : Int32) (p2 : Int32) (p3 : Int32) (r : Int32) (σ' : SX) (hf : fn_X3_step σ p1 p2 p3 = some (r, σ')) : Met l yX3_step wsX3_step ({ frames := 4, cells := 0, slots := 0, locals := 95 } : Room) (va_Pc [.ref (κ 0), .int p1, .int p2, .int p3] (xP D cI cII κ σ)) (QI D cI cII 31 κ (xC cI cII κ σ') r) 0 0 (gA 31 κ) := by
  refine g_enter (cc := cX3_step) (maxL := 5) (ret := (some .int)) (by decide) rfl (Nat.le_of_ble_eq_true rfl) ?_
  intro p e s m args below meth c ls S hr hlk _ hB hl
  have S : CallFix p m c cX3_step 5 s args wsX3_step RX3 := S
  obtain ⟨hP, hK⟩ := hB
  have hl : lv_has ls 5 [(0, .ref (κ 0)), (1, .int p1), (2, .int p2), (3, .int p3)] := hl
  have hS : va_S (gA 31 κ) s.heap s.heap [] := va_S.rf
  have hA : ∀ k, k < 31 → gA 31 κ (κ k) := gA_in
  obtain ⟨hx, hb, hml, hown, hts⟩ := id S
  have hiX3 : ∀ w ∈ u_ws RX3 TX3 3, w ∈ wsX3_step := by decide +kernel
  unfold fn_X3_step at hf
  refine lv_aload_n hx hb dX3_step_0 rfl (lv_at hl 0 rfl) ?_
  refine lv_iload_n hx hb dX3_step_1 rfl (lv_at hl 1 rfl) ?_
  obtain ⟨σ1, hq2, hf⟩ := obw hf
  refine g_callv (va_runV (As := [.int p1]) (rest := []) S (met_X3_needState l D cI cII κ hκ σ p1 σ1 hq2) (cwV 1 S.2.2.2.2 gX3_step_X3_needState rfl rfl rfl (by decide +kernel) ⟨Nat.le_of_ble_eq_true rfl, Nat.le_of_ble_eq_true rfl⟩) (g_preV (N := 3) (T := TX3) hK hP (Nat.le_refl _) (by decide) rfl rfl) rfl rfl hl.1 rfl (lv_room (Nat.le_of_ble_eq_true rfl)) dX3_step_2 ⟨Nat.le_of_ble_eq_true rfl, Nat.le_of_ble_eq_true rfl⟩) (Nat.le_refl _) hκ hA hP hS (fun j h1 h2 => absurd h2 (Nat.not_lt.mpr h1)) (fun H locs hP hS => ?_)
  refine lv_iload_n hx hb dX3_step_5 rfl (lv_at hl 2 rfl) ?_
  obtain ⟨σ2, hq6, hf⟩ := obw hf
  refine g_callv (va_runS (As := [.int p2]) (rest := []) S (met_X3_needLabel l D cI cII κ hκ σ1 p2 σ2 hq6) (va_cwS 1 S.2.2.2.2 gX3_step_X3_needLabel rfl rfl rfl (by decide +kernel) ⟨Nat.le_of_ble_eq_true rfl, Nat.le_of_ble_eq_true rfl⟩) (g_preS hK hP (Nat.le_refl _)) rfl rfl hl.1 rfl (lv_room (Nat.le_of_ble_eq_true rfl)) dX3_step_6 ⟨Nat.le_of_ble_eq_true rfl, Nat.le_of_ble_eq_true rfl⟩) (Nat.le_refl _) hκ hA hP hS (fun j h1 h2 => absurd h2 (Nat.not_lt.mpr h1)) (fun H locs hP hS => ?_)
  refine lv_aload_n hx hb dX3_step_9 rfl (lv_at hl 0 rfl) ?_
  refine lv_iload_n hx hb dX3_step_10 rfl (lv_at hl 3 rfl) ?_
  obtain ⟨σ3, hq11, hf⟩ := obw hf
  refine g_callv (va_runV (As := [.int p3]) (rest := []) S (met_X3_needState l D cI cII κ hκ σ2 p3 σ3 hq11) (cwV 1 S.2.2.2.2 gX3_step_X3_needState rfl rfl rfl (by decide +kernel) ⟨Nat.le_of_ble_eq_true rfl, Nat.le_of_ble_eq_true rfl⟩) (g_preV (N := 3) (T := TX3) hK hP (Nat.le_refl _) (by decide) rfl rfl) rfl rfl hl.1 rfl (lv_room (Nat.le_of_ble_eq_true rfl)) dX3_step_11 ⟨Nat.le_of_ble_eq_true rfl, Nat.le_of_ble_eq_true rfl⟩) (Nat.le_refl _) hκ hA hP hS (fun j h1 h2 => absurd h2 (Nat.not_lt.mpr h1)) (fun H locs hP hS => ?_)
  refine lv_aload_n hx hb dX3_step_14 rfl (lv_at hl 0 rfl) ?_
  refine g_get (q := 0) (ci := 3) (k := 0) (ref := RX3) (C := RX3) (T := TX3) (N := 3) (index := 10) (v := .ref (κ 1)) S hK hP hiX3 (by decide) rfl rfl (by decide) rfl (by decide +kernel) rfl dX3_step_15 ?_
  refine lv_iload_n hx hb dX3_step_18 rfl (lv_at hl 1 rfl) ?_
  refine lv_iload_n hx hb dX3_step_19 rfl (lv_at hl 2 rfl) ?_
  obtain ⟨v4, hq20, hf⟩ := obw hf
  refine g_calli (va_runV (As := [.int p1, .int p2]) (rest := []) S (met_X2_end l D cI cII κ hκ σ3 p1 p2 v4 hq20) (cwV 2 S.2.2.2.2 gX3_step_X2_end rfl rfl rfl (by decide +kernel) ⟨Nat.le_of_ble_eq_true rfl, Nat.le_of_ble_eq_true rfl⟩) (g_preV (N := 5) (T := TX2) hK hP (Nat.le_refl _) (by decide) rfl rfl) rfl rfl hl.1 rfl (lv_room (Nat.le_of_ble_eq_true rfl)) dX3_step_20 ⟨Nat.le_of_ble_eq_true rfl, Nat.le_of_ble_eq_true rfl⟩) (Nat.le_refl _) hκ hA hP hS (fun j h1 h2 => absurd h2 (Nat.not_lt.mpr h1)) (fun H locs hP hS => ?_)
  obtain ⟨v5, ev5, hf⟩ := letb_w hf
  refine lv_nmi ev5 ?_
  refine lv_istore (lv' := [(4, .int v5), (0, .ref (κ 0)), (1, .int p1), (2, .int p2), (3, .int p3)]) hx hb dX3_step_23 hl (by decide) rfl (fun ls hl => ?_)
  refine lv_aload_n hx hb dX3_step_25 rfl (lv_at hl 1 rfl) ?_
  refine g_get (q := 0) (ci := 3) (k := 0) (ref := RX3) (C := RX3) (T := TX3) (N := 3) (index := 10) (v := .ref (κ 1)) S hK hP hiX3 (by decide) rfl rfl (by decide) rfl (by decide +kernel) rfl dX3_step_26 ?_
  refine lv_iload_n hx hb dX3_step_29 rfl (lv_at hl 2 rfl) ?_
  refine lv_iload_n hx hb dX3_step_30 rfl (lv_at hl 3 rfl) ?_
  refine lv_iload_n hx hb dX3_step_31 rfl (lv_at hl 4 rfl) ?_
  obtain ⟨σ6, hq32, hf⟩ := obw hf
  refine g_callv (va_runV (As := [.int p1, .int p2, .int p3]) (rest := []) S (met_X2_put l D cI cII κ hκ σ3 p1 p2 p3 σ6 hq32) (cwV 3 S.2.2.2.2 gX3_step_X2_put rfl rfl rfl (by decide +kernel) ⟨Nat.le_of_ble_eq_true rfl, Nat.le_of_ble_eq_true rfl⟩) (g_preV (N := 5) (T := TX2) hK hP (Nat.le_refl _) (by decide) rfl rfl) rfl rfl hl.1 rfl (lv_room (Nat.le_of_ble_eq_true rfl)) dX3_step_32 ⟨Nat.le_of_ble_eq_true rfl, Nat.le_of_ble_eq_true rfl⟩) (Nat.le_refl _) hκ hA hP hS (fun j h1 h2 => absurd h2 (Nat.not_lt.mpr h1)) (fun H locs hP hS => ?_)
  refine lv_aload_n hx hb dX3_step_35 rfl (lv_at hl 1 rfl) ?_
  obtain ⟨σ7, hq36, hf⟩ := obw hf
  refine g_callv (va_runV (As := []) (rest := []) S (met_X3_changed l D cI cII κ hκ σ6 σ7 hq36) (cwV 0 S.2.2.2.2 gX3_step_X3_changed rfl rfl rfl (by decide +kernel) ⟨Nat.le_of_ble_eq_true rfl, Nat.le_of_ble_eq_true rfl⟩) (g_preV (N := 3) (T := TX3) hK hP (Nat.le_refl _) (by decide) rfl rfl) rfl rfl hl.1 rfl (lv_room (Nat.le_of_ble_eq_true rfl)) dX3_step_36 ⟨Nat.le_of_ble_eq_true rfl, Nat.le_of_ble_eq_true rfl⟩) (Nat.le_refl _) hκ hA hP hS (fun j h1 h2 => absurd h2 (Nat.not_lt.mpr h1)) (fun H locs hP hS => ?_)
  refine lv_iload hx hb dX3_step_39 (lv_at hl 0 rfl) ?_
  obtain ⟨h8, h9⟩ := Prod.mk.inj (Option.some.inj hf)
  subst h9
  exact g_iret S hr hlk hK hP hS h8 dX3_step_41

set_option maxRecDepth 100000 in
set_option maxHeartbeats 4000000 in
theorem met_X3_target (l : Launch) (D : va_G) (cI cII : ClassId) (κ : Nat → Nat) (hκ : Inj 31 κ) (σ : SX) (p1 : Int32) (p2 : Int32) (r : Int32) (σ' : SX) (hf : fn_X3_target σ p1 p2 = some (r, σ')) : Met l yX3_target wsX3_target ({ frames := 1, cells := 0, slots := 0, locals := 22 } : Room) (va_Pc [.ref (κ 0), .int p1, .int p2] (xP D cI cII κ σ)) (QI D cI cII 31 κ (xC cI cII κ σ') r) 0 0 (gA 31 κ) := by
  refine g_enter (cc := cX3_target) (maxL := 3) (ret := (some .int)) (by decide) rfl (Nat.le_of_ble_eq_true rfl) ?_
  intro p e s m args below meth c ls S hr hlk _ hB hl
  have S : CallFix p m c cX3_target 3 s args wsX3_target RX3 := S
  obtain ⟨hP, hK⟩ := hB
  have hl : lv_has ls 3 [(0, .ref (κ 0)), (1, .int p1), (2, .int p2)] := hl
  have hS : va_S (gA 31 κ) s.heap s.heap [] := va_S.rf
  have hA : ∀ k, k < 31 → gA 31 κ (κ k) := gA_in
  obtain ⟨hx, hb, hml, hown, hts⟩ := id S
  have hiX3 : ∀ w ∈ u_ws RX3 TX3 3, w ∈ wsX3_target := by decide +kernel
  unfold fn_X3_target at hf
  refine lv_aload_n hx hb dX3_target_0 rfl (lv_at hl 0 rfl) ?_
  refine lv_iload_n hx hb dX3_target_1 rfl (lv_at hl 1 rfl) ?_
  obtain ⟨σ1, hq2, hf⟩ := obw hf
  refine g_callv (va_runV (As := [.int p1]) (rest := []) S (met_X3_needState l D cI cII κ hκ σ p1 σ1 hq2) (cwV 1 S.2.2.2.2 gX3_target_X3_needState rfl rfl rfl (by decide +kernel) ⟨Nat.le_of_ble_eq_true rfl, Nat.le_of_ble_eq_true rfl⟩) (g_preV (N := 3) (T := TX3) hK hP (Nat.le_refl _) (by decide) rfl rfl) rfl rfl hl.1 rfl (lv_room (Nat.le_of_ble_eq_true rfl)) dX3_target_2 ⟨Nat.le_of_ble_eq_true rfl, Nat.le_of_ble_eq_true rfl⟩) (Nat.le_refl _) hκ hA hP hS (fun j h1 h2 => absurd h2 (Nat.not_lt.mpr h1)) (fun H locs hP hS => ?_)
  refine lv_iload_n hx hb dX3_target_5 rfl (lv_at hl 2 rfl) ?_
  obtain ⟨σ2, hq6, hf⟩ := obw hf
  refine g_callv (va_runS (As := [.int p2]) (rest := []) S (met_X3_needLabel l D cI cII κ hκ σ1 p2 σ2 hq6) (va_cwS 1 S.2.2.2.2 gX3_target_X3_needLabel rfl rfl rfl (by decide +kernel) ⟨Nat.le_of_ble_eq_true rfl, Nat.le_of_ble_eq_true rfl⟩) (g_preS hK hP (Nat.le_refl _)) rfl rfl hl.1 rfl (lv_room (Nat.le_of_ble_eq_true rfl)) dX3_target_6 ⟨Nat.le_of_ble_eq_true rfl, Nat.le_of_ble_eq_true rfl⟩) (Nat.le_refl _) hκ hA hP hS (fun j h1 h2 => absurd h2 (Nat.not_lt.mpr h1)) (fun H locs hP hS => ?_)
  refine lv_aload_n hx hb dX3_target_9 rfl (lv_at hl 0 rfl) ?_
  refine g_get (q := 0) (ci := 3) (k := 0) (ref := RX3) (C := RX3) (T := TX3) (N := 3) (index := 10) (v := .ref (κ 1)) S hK hP hiX3 (by decide) rfl rfl (by decide) rfl (by decide +kernel) rfl dX3_target_10 ?_
  refine lv_iload_n hx hb dX3_target_13 rfl (lv_at hl 1 rfl) ?_
  refine lv_iload_n hx hb dX3_target_14 rfl (lv_at hl 2 rfl) ?_
  obtain ⟨v3, hq15, hf⟩ := obw hf
  refine g_calli (va_runV (As := [.int p1, .int p2]) (rest := []) S (met_X2_end l D cI cII κ hκ σ2 p1 p2 v3 hq15) (cwV 2 S.2.2.2.2 gX3_target_X2_end rfl rfl rfl (by decide +kernel) ⟨Nat.le_of_ble_eq_true rfl, Nat.le_of_ble_eq_true rfl⟩) (g_preV (N := 5) (T := TX2) hK hP (Nat.le_refl _) (by decide) rfl rfl) rfl rfl hl.1 rfl (lv_room (Nat.le_of_ble_eq_true rfl)) dX3_target_15 ⟨Nat.le_of_ble_eq_true rfl, Nat.le_of_ble_eq_true rfl⟩) (Nat.le_refl _) hκ hA hP hS (fun j h1 h2 => absurd h2 (Nat.not_lt.mpr h1)) (fun H locs hP hS => ?_)
  obtain ⟨h8, h9⟩ := Prod.mk.inj (Option.some.inj hf)
  subst h9
  exact g_iret S hr hlk hK hP hS h8 dX3_target_18

set_option maxRecDepth 100000 in
set_option maxHeartbeats 4000000 in
theorem met_X3_crossing (l : Launch) (D : va_G) (cI cII : ClassId) (κ : Nat → Nat) (hκ : Inj 31 κ) (σ : SX) (p1 : Int32) (p2 : Int32) (r : Int32) (σ' : SX) (hf : fn_X3_crossing σ p1 p2 = some (r, σ')) : Met l yX3_crossing wsX3_crossing ({ frames := 2, cells := 0, slots := 0, locals := 41 } : Room) (va_Pc [.ref (κ 0), .int p1, .int p2] (xP D cI cII κ σ)) (QI D cI cII 31 κ (xC cI cII κ σ') r) 0 0 (gA 31 κ) := by
  refine g_enter (cc := cX3_crossing) (maxL := 3) (ret := (some .int)) (by decide) rfl (Nat.le_of_ble_eq_true rfl) ?_
  intro p e s m args below meth c ls S hr hlk _ hB hl
  have S : CallFix p m c cX3_crossing 3 s args wsX3_crossing RX3 := S
  obtain ⟨hP, hK⟩ := hB
  have hl : lv_has ls 3 [(0, .ref (κ 0)), (1, .int p1), (2, .int p2)] := hl
  have hS : va_S (gA 31 κ) s.heap s.heap [] := va_S.rf
  have hA : ∀ k, k < 31 → gA 31 κ (κ k) := gA_in
  obtain ⟨hx, hb, hml, hown, hts⟩ := id S
  have hiX3 : ∀ w ∈ u_ws RX3 TX3 3, w ∈ wsX3_crossing := by decide +kernel
  unfold fn_X3_crossing at hf
  refine lv_aload_n hx hb dX3_crossing_0 rfl (lv_at hl 0 rfl) ?_
  refine lv_iload_n hx hb dX3_crossing_1 rfl (lv_at hl 1 rfl) ?_
  obtain ⟨σ1, hq2, hf⟩ := obw hf
  refine g_callv (va_runV (As := [.int p1]) (rest := []) S (met_X3_needSet l D cI cII κ hκ σ p1 σ1 hq2) (cwV 1 S.2.2.2.2 gX3_crossing_X3_needSet rfl rfl rfl (by decide +kernel) ⟨Nat.le_of_ble_eq_true rfl, Nat.le_of_ble_eq_true rfl⟩) (g_preV (N := 3) (T := TX3) hK hP (Nat.le_refl _) (by decide) rfl rfl) rfl rfl hl.1 rfl (lv_room (Nat.le_of_ble_eq_true rfl)) dX3_crossing_2 ⟨Nat.le_of_ble_eq_true rfl, Nat.le_of_ble_eq_true rfl⟩) (Nat.le_refl _) hκ hA hP hS (fun j h1 h2 => absurd h2 (Nat.not_lt.mpr h1)) (fun H locs hP hS => ?_)
  refine lv_iload_n hx hb dX3_crossing_5 rfl (lv_at hl 2 rfl) ?_
  obtain ⟨σ2, hq6, hf⟩ := obw hf
  refine g_callv (va_runS (As := [.int p2]) (rest := []) S (met_X3_needLabel l D cI cII κ hκ σ1 p2 σ2 hq6) (va_cwS 1 S.2.2.2.2 gX3_crossing_X3_needLabel rfl rfl rfl (by decide +kernel) ⟨Nat.le_of_ble_eq_true rfl, Nat.le_of_ble_eq_true rfl⟩) (g_preS hK hP (Nat.le_refl _)) rfl rfl hl.1 rfl (lv_room (Nat.le_of_ble_eq_true rfl)) dX3_crossing_6 ⟨Nat.le_of_ble_eq_true rfl, Nat.le_of_ble_eq_true rfl⟩) (Nat.le_refl _) hκ hA hP hS (fun j h1 h2 => absurd h2 (Nat.not_lt.mpr h1)) (fun H locs hP hS => ?_)
  refine lv_aload_n hx hb dX3_crossing_9 rfl (lv_at hl 0 rfl) ?_
  refine g_get (q := 0) (ci := 3) (k := 0) (ref := RX3) (C := RX3) (T := TX3) (N := 3) (index := 10) (v := .ref (κ 1)) S hK hP hiX3 (by decide) rfl rfl (by decide) rfl (by decide +kernel) rfl dX3_crossing_10 ?_
  refine lv_iload_n hx hb dX3_crossing_13 rfl (lv_at hl 1 rfl) ?_
  refine lv_iload_n hx hb dX3_crossing_14 rfl (lv_at hl 2 rfl) ?_
  obtain ⟨v3, hq15, hf⟩ := obw hf
  refine g_calli (va_runV (As := [.int p1, .int p2]) (rest := []) S (met_X2_way l D cI cII κ hκ σ2 p1 p2 v3 hq15) (cwV 2 S.2.2.2.2 gX3_crossing_X2_way rfl rfl rfl (by decide +kernel) ⟨Nat.le_of_ble_eq_true rfl, Nat.le_of_ble_eq_true rfl⟩) (g_preV (N := 5) (T := TX2) hK hP (Nat.le_refl _) (by decide) rfl rfl) rfl rfl hl.1 rfl (lv_room (Nat.le_of_ble_eq_true rfl)) dX3_crossing_15 ⟨Nat.le_of_ble_eq_true rfl, Nat.le_of_ble_eq_true rfl⟩) (Nat.le_refl _) hκ hA hP hS (fun j h1 h2 => absurd h2 (Nat.not_lt.mpr h1)) (fun H locs hP hS => ?_)
  obtain ⟨h8, h9⟩ := Prod.mk.inj (Option.some.inj hf)
  subst h9
  exact g_iret S hr hlk hK hP hS h8 dX3_crossing_18

set_option maxRecDepth 100000 in
set_option maxHeartbeats 4000000 in
theorem met_X3_isRegion (l : Launch) (D : va_G) (cI cII : ClassId) (κ : Nat → Nat) (hκ : Inj 31 κ) (σ : SX) (p1 : Int32) (r : Int32) (σ' : SX) (hf : fn_X3_isRegion σ p1 = some (r, σ')) : Met l yX3_isRegion wsX3_isRegion ({ frames := 3, cells := 0, slots := 0, locals := 68 } : Room) (va_Pc [.ref (κ 0), .int p1] (xP D cI cII κ σ)) (QI D cI cII 31 κ (xC cI cII κ σ') r) 0 0 (gA 31 κ) := by
  refine g_enter (cc := cX3_isRegion) (maxL := 2) (ret := (some .boolean)) (by decide) rfl (Nat.le_of_ble_eq_true rfl) ?_
  intro p e s m args below meth c ls S hr hlk _ hB hl
  have S : CallFix p m c cX3_isRegion 2 s args wsX3_isRegion RX3 := S
  obtain ⟨hP, hK⟩ := hB
  have hl : lv_has ls 2 [(0, .ref (κ 0)), (1, .int p1)] := hl
  have hS : va_S (gA 31 κ) s.heap s.heap [] := va_S.rf
  have hA : ∀ k, k < 31 → gA 31 κ (κ k) := gA_in
  obtain ⟨hx, hb, hml, hown, hts⟩ := id S
  have hiX3 : ∀ w ∈ u_ws RX3 TX3 3, w ∈ wsX3_isRegion := by decide +kernel
  unfold fn_X3_isRegion at hf
  refine lv_aload_n hx hb dX3_isRegion_0 rfl (lv_at hl 0 rfl) ?_
  refine lv_iload_n hx hb dX3_isRegion_1 rfl (lv_at hl 1 rfl) ?_
  obtain ⟨σ1, hq2, hf⟩ := obw hf
  refine g_callv (va_runV (As := [.int p1]) (rest := []) S (met_X3_needSet l D cI cII κ hκ σ p1 σ1 hq2) (cwV 1 S.2.2.2.2 gX3_isRegion_X3_needSet rfl rfl rfl (by decide +kernel) ⟨Nat.le_of_ble_eq_true rfl, Nat.le_of_ble_eq_true rfl⟩) (g_preV (N := 3) (T := TX3) hK hP (Nat.le_refl _) (by decide) rfl rfl) rfl rfl hl.1 rfl (lv_room (Nat.le_of_ble_eq_true rfl)) dX3_isRegion_2 ⟨Nat.le_of_ble_eq_true rfl, Nat.le_of_ble_eq_true rfl⟩) (Nat.le_refl _) hκ hA hP hS (fun j h1 h2 => absurd h2 (Nat.not_lt.mpr h1)) (fun H locs hP hS => ?_)
  refine lv_aload_n hx hb dX3_isRegion_5 rfl (lv_at hl 0 rfl) ?_
  refine g_get (q := 0) (ci := 3) (k := 1) (ref := RX3) (C := RX3) (T := TX3) (N := 3) (index := 21) (v := .ref (κ 2)) S hK hP hiX3 (by decide) rfl rfl (by decide) rfl (by decide +kernel) rfl dX3_isRegion_6 ?_
  refine lv_iload_n hx hb dX3_isRegion_9 rfl (lv_at hl 1 rfl) ?_
  obtain ⟨v2, hq10, hf⟩ := obw hf
  refine g_calli (va_runV (As := [.int p1]) (rest := []) S (met_X1_isOne l D cI cII κ hκ σ1 p1 v2 hq10) (cwV 1 S.2.2.2.2 gX3_isRegion_X1_isOne rfl rfl rfl (by decide +kernel) ⟨Nat.le_of_ble_eq_true rfl, Nat.le_of_ble_eq_true rfl⟩) (g_preV (N := 4) (T := TX1) hK hP (Nat.le_refl _) (by decide) rfl rfl) rfl rfl hl.1 rfl (lv_room (Nat.le_of_ble_eq_true rfl)) dX3_isRegion_10 ⟨Nat.le_of_ble_eq_true rfl, Nat.le_of_ble_eq_true rfl⟩) (Nat.le_refl _) hκ hA hP hS (fun j h1 h2 => absurd h2 (Nat.not_lt.mpr h1)) (fun H locs hP hS => ?_)
  obtain ⟨w9, hw9, hf⟩ := obw hf
  obtain ⟨h8, h9⟩ := Prod.mk.inj (Option.some.inj hf)
  subst h8
  subst h9
  exact g_zret S hr hlk hK hP hS hw9 dX3_isRegion_13

set_option maxRecDepth 100000 in
set_option maxHeartbeats 4000000 in
theorem met_X3_region (l : Launch) (D : va_G) (cI cII : ClassId) (κ : Nat → Nat) (hκ : Inj 31 κ) (σ : SX) (p1 : Int32) (r : Int32) (σ' : SX) (hf : fn_X3_region σ p1 = some (r, σ')) : Met l yX3_region wsX3_region ({ frames := 5, cells := 0, slots := 0, locals := 110 } : Room) (va_Pc [.ref (κ 0), .int p1] (xP D cI cII κ σ)) (QI D cI cII 31 κ (xC cI cII κ σ') r) 0 0 (gA 31 κ) := by
  refine g_enter (cc := cX3_region) (maxL := 2) (ret := (some .int)) (by decide) rfl (Nat.le_of_ble_eq_true rfl) ?_
  intro p e s m args below meth c ls S hr hlk _ hB hl
  have S : CallFix p m c cX3_region 2 s args wsX3_region RX3 := S
  obtain ⟨hP, hK⟩ := hB
  have hl : lv_has ls 2 [(0, .ref (κ 0)), (1, .int p1)] := hl
  have hS : va_S (gA 31 κ) s.heap s.heap [] := va_S.rf
  have hA : ∀ k, k < 31 → gA 31 κ (κ k) := gA_in
  obtain ⟨hx, hb, hml, hown, hts⟩ := id S
  have hiX3 : ∀ w ∈ u_ws RX3 TX3 3, w ∈ wsX3_region := by decide +kernel
  unfold fn_X3_region at hf
  refine lv_aload_n hx hb dX3_region_0 rfl (lv_at hl 0 rfl) ?_
  refine lv_iload_n hx hb dX3_region_1 rfl (lv_at hl 1 rfl) ?_
  obtain ⟨σ1, hq2, hf⟩ := obw hf
  refine g_callv (va_runV (As := [.int p1]) (rest := []) S (met_X3_needRegion l D cI cII κ hκ σ p1 σ1 hq2) (cwV 1 S.2.2.2.2 gX3_region_X3_needRegion rfl rfl rfl (by decide +kernel) ⟨Nat.le_of_ble_eq_true rfl, Nat.le_of_ble_eq_true rfl⟩) (g_preV (N := 3) (T := TX3) hK hP (Nat.le_refl _) (by decide) rfl rfl) rfl rfl hl.1 rfl (lv_room (Nat.le_of_ble_eq_true rfl)) dX3_region_2 ⟨Nat.le_of_ble_eq_true rfl, Nat.le_of_ble_eq_true rfl⟩) (Nat.le_refl _) hκ hA hP hS (fun j h1 h2 => absurd h2 (Nat.not_lt.mpr h1)) (fun H locs hP hS => ?_)
  refine lv_aload_n hx hb dX3_region_5 rfl (lv_at hl 0 rfl) ?_
  refine g_get (q := 0) (ci := 3) (k := 1) (ref := RX3) (C := RX3) (T := TX3) (N := 3) (index := 21) (v := .ref (κ 2)) S hK hP hiX3 (by decide) rfl rfl (by decide) rfl (by decide +kernel) rfl dX3_region_6 ?_
  refine lv_iload_n hx hb dX3_region_9 rfl (lv_at hl 1 rfl) ?_
  obtain ⟨v2, hq10, hf⟩ := obw hf
  refine g_calli (va_runV (As := [.int p1]) (rest := []) S (met_X1_at l D cI cII κ hκ σ1 p1 v2 hq10) (cwV 1 S.2.2.2.2 gX3_region_X1_at rfl rfl rfl (by decide +kernel) ⟨Nat.le_of_ble_eq_true rfl, Nat.le_of_ble_eq_true rfl⟩) (g_preV (N := 4) (T := TX1) hK hP (Nat.le_refl _) (by decide) rfl rfl) rfl rfl hl.1 rfl (lv_room (Nat.le_of_ble_eq_true rfl)) dX3_region_10 ⟨Nat.le_of_ble_eq_true rfl, Nat.le_of_ble_eq_true rfl⟩) (Nat.le_refl _) hκ hA hP hS (fun j h1 h2 => absurd h2 (Nat.not_lt.mpr h1)) (fun H locs hP hS => ?_)
  obtain ⟨h8, h9⟩ := Prod.mk.inj (Option.some.inj hf)
  subst h9
  exact g_iret S hr hlk hK hP hS h8 dX3_region_13

set_option maxRecDepth 100000 in
set_option maxHeartbeats 4000000 in
theorem met_X3_isLeast (l : Launch) (D : va_G) (cI cII : ClassId) (κ : Nat → Nat) (hκ : Inj 31 κ) (σ : SX) (p1 : Int32) (r : Int32) (σ' : SX) (hf : fn_X3_isLeast σ p1 = some (r, σ')) : Met l yX3_isLeast wsX3_isLeast ({ frames := 5, cells := 0, slots := 0, locals := 110 } : Room) (va_Pc [.ref (κ 0), .int p1] (xP D cI cII κ σ)) (QI D cI cII 31 κ (xC cI cII κ σ') r) 0 0 (gA 31 κ) := by
  refine g_enter (cc := cX3_isLeast) (maxL := 2) (ret := (some .boolean)) (by decide) rfl (Nat.le_of_ble_eq_true rfl) ?_
  intro p e s m args below meth c ls S hr hlk _ hB hl
  have S : CallFix p m c cX3_isLeast 2 s args wsX3_isLeast RX3 := S
  obtain ⟨hP, hK⟩ := hB
  have hl : lv_has ls 2 [(0, .ref (κ 0)), (1, .int p1)] := hl
  have hS : va_S (gA 31 κ) s.heap s.heap [] := va_S.rf
  have hA : ∀ k, k < 31 → gA 31 κ (κ k) := gA_in
  obtain ⟨hx, hb, hml, hown, hts⟩ := id S
  have hiX3 : ∀ w ∈ u_ws RX3 TX3 3, w ∈ wsX3_isLeast := by decide +kernel
  unfold fn_X3_isLeast at hf
  refine lv_aload_n hx hb dX3_isLeast_0 rfl (lv_at hl 0 rfl) ?_
  refine lv_iload_n hx hb dX3_isLeast_1 rfl (lv_at hl 1 rfl) ?_
  obtain ⟨σ1, hq2, hf⟩ := obw hf
  refine g_callv (va_runV (As := [.int p1]) (rest := []) S (met_X3_needRegion l D cI cII κ hκ σ p1 σ1 hq2) (cwV 1 S.2.2.2.2 gX3_isLeast_X3_needRegion rfl rfl rfl (by decide +kernel) ⟨Nat.le_of_ble_eq_true rfl, Nat.le_of_ble_eq_true rfl⟩) (g_preV (N := 3) (T := TX3) hK hP (Nat.le_refl _) (by decide) rfl rfl) rfl rfl hl.1 rfl (lv_room (Nat.le_of_ble_eq_true rfl)) dX3_isLeast_2 ⟨Nat.le_of_ble_eq_true rfl, Nat.le_of_ble_eq_true rfl⟩) (Nat.le_refl _) hκ hA hP hS (fun j h1 h2 => absurd h2 (Nat.not_lt.mpr h1)) (fun H locs hP hS => ?_)
  refine lv_aload_n hx hb dX3_isLeast_5 rfl (lv_at hl 0 rfl) ?_
  refine g_get (q := 0) (ci := 3) (k := 1) (ref := RX3) (C := RX3) (T := TX3) (N := 3) (index := 21) (v := .ref (κ 2)) S hK hP hiX3 (by decide) rfl rfl (by decide) rfl (by decide +kernel) rfl dX3_isLeast_6 ?_
  refine lv_iload_n hx hb dX3_isLeast_9 rfl (lv_at hl 1 rfl) ?_
  obtain ⟨v2, hq10, hf⟩ := obw hf
  refine g_calli (va_runV (As := [.int p1]) (rest := []) S (met_X1_hasNoPart l D cI cII κ hκ σ1 p1 v2 hq10) (cwV 1 S.2.2.2.2 gX3_isLeast_X1_hasNoPart rfl rfl rfl (by decide +kernel) ⟨Nat.le_of_ble_eq_true rfl, Nat.le_of_ble_eq_true rfl⟩) (g_preV (N := 4) (T := TX1) hK hP (Nat.le_refl _) (by decide) rfl rfl) rfl rfl hl.1 rfl (lv_room (Nat.le_of_ble_eq_true rfl)) dX3_isLeast_10 ⟨Nat.le_of_ble_eq_true rfl, Nat.le_of_ble_eq_true rfl⟩) (Nat.le_refl _) hκ hA hP hS (fun j h1 h2 => absurd h2 (Nat.not_lt.mpr h1)) (fun H locs hP hS => ?_)
  obtain ⟨w9, hw9, hf⟩ := obw hf
  obtain ⟨h8, h9⟩ := Prod.mk.inj (Option.some.inj hf)
  subst h8
  subst h9
  exact g_zret S hr hlk hK hP hS hw9 dX3_isLeast_13

set_option maxRecDepth 100000 in
set_option maxHeartbeats 4000000 in
theorem met_X3_grow (l : Launch) (D : va_G) (cI cII : ClassId) (κ : Nat → Nat) (hκ : Inj 31 κ) (σ : SX) (p1 : Int32) (r : Int32) (σ' : SX) (hf : fn_X3_grow σ p1 = some (r, σ')) : Met l yX3_grow wsX3_grow ({ frames := 3, cells := 0, slots := 0, locals := 72 } : Room) (va_Pc [.ref (κ 0), .int p1] (xP D cI cII κ σ)) (QI D cI cII 31 κ (xC cI cII κ σ') r) 0 0 (gA 31 κ) := by
  refine g_enter (cc := cX3_grow) (maxL := 2) (ret := (some .int)) (by decide) rfl (Nat.le_of_ble_eq_true rfl) ?_
  intro p e s m args below meth c ls S hr hlk _ hB hl
  have S : CallFix p m c cX3_grow 2 s args wsX3_grow RX3 := S
  obtain ⟨hP, hK⟩ := hB
  have hl : lv_has ls 2 [(0, .ref (κ 0)), (1, .int p1)] := hl
  have hS : va_S (gA 31 κ) s.heap s.heap [] := va_S.rf
  have hA : ∀ k, k < 31 → gA 31 κ (κ k) := gA_in
  obtain ⟨hx, hb, hml, hown, hts⟩ := id S
  have hiX3 : ∀ w ∈ u_ws RX3 TX3 3, w ∈ wsX3_grow := by decide +kernel
  unfold fn_X3_grow at hf
  refine lv_aload_n hx hb dX3_grow_0 rfl (lv_at hl 0 rfl) ?_
  refine lv_iload_n hx hb dX3_grow_1 rfl (lv_at hl 1 rfl) ?_
  obtain ⟨σ1, hq2, hf⟩ := obw hf
  refine g_callv (va_runV (As := [.int p1]) (rest := []) S (met_X3_needSet l D cI cII κ hκ σ p1 σ1 hq2) (cwV 1 S.2.2.2.2 gX3_grow_X3_needSet rfl rfl rfl (by decide +kernel) ⟨Nat.le_of_ble_eq_true rfl, Nat.le_of_ble_eq_true rfl⟩) (g_preV (N := 3) (T := TX3) hK hP (Nat.le_refl _) (by decide) rfl rfl) rfl rfl hl.1 rfl (lv_room (Nat.le_of_ble_eq_true rfl)) dX3_grow_2 ⟨Nat.le_of_ble_eq_true rfl, Nat.le_of_ble_eq_true rfl⟩) (Nat.le_refl _) hκ hA hP hS (fun j h1 h2 => absurd h2 (Nat.not_lt.mpr h1)) (fun H locs hP hS => ?_)
  refine lv_aload_n hx hb dX3_grow_5 rfl (lv_at hl 0 rfl) ?_
  refine g_get (q := 0) (ci := 3) (k := 0) (ref := RX3) (C := RX3) (T := TX3) (N := 3) (index := 10) (v := .ref (κ 1)) S hK hP hiX3 (by decide) rfl rfl (by decide) rfl (by decide +kernel) rfl dX3_grow_6 ?_
  refine lv_iload_n hx hb dX3_grow_9 rfl (lv_at hl 1 rfl) ?_
  obtain ⟨v2, hq10, hf⟩ := obw hf
  refine g_calli (va_runV (As := [.int p1]) (rest := []) S (met_X2_grown l D cI cII κ hκ σ1 p1 v2 hq10) (cwV 1 S.2.2.2.2 gX3_grow_X2_grown rfl rfl rfl (by decide +kernel) ⟨Nat.le_of_ble_eq_true rfl, Nat.le_of_ble_eq_true rfl⟩) (g_preV (N := 5) (T := TX2) hK hP (Nat.le_refl _) (by decide) rfl rfl) rfl rfl hl.1 rfl (lv_room (Nat.le_of_ble_eq_true rfl)) dX3_grow_10 ⟨Nat.le_of_ble_eq_true rfl, Nat.le_of_ble_eq_true rfl⟩) (Nat.le_refl _) hκ hA hP hS (fun j h1 h2 => absurd h2 (Nat.not_lt.mpr h1)) (fun H locs hP hS => ?_)
  obtain ⟨h8, h9⟩ := Prod.mk.inj (Option.some.inj hf)
  subst h9
  exact g_iret S hr hlk hK hP hS h8 dX3_grow_13

set_option maxRecDepth 100000 in
set_option maxHeartbeats 4000000 in
theorem met_X3_placeRegion (l : Launch) (D : va_G) (cI cII : ClassId) (κ : Nat → Nat) (hκ : Inj 31 κ) (σ : SX) (p1 : Int32) (r : Int32) (σ' : SX) (hf : fn_X3_placeRegion σ p1 = some (r, σ')) : Met l yX3_placeRegion wsX3_placeRegion ({ frames := 1, cells := 0, slots := 0, locals := 21 } : Room) (va_Pc [.ref (κ 0), .int p1] (xP D cI cII κ σ)) (QI D cI cII 31 κ (xC cI cII κ σ') r) 0 0 (gA 31 κ) := by
  refine g_enter (cc := cX3_placeRegion) (maxL := 2) (ret := (some .int)) (by decide) rfl (Nat.le_of_ble_eq_true rfl) ?_
  intro p e s m args below meth c ls S hr hlk _ hB hl
  have S : CallFix p m c cX3_placeRegion 2 s args wsX3_placeRegion RX3 := S
  obtain ⟨hP, hK⟩ := hB
  have hl : lv_has ls 2 [(0, .ref (κ 0)), (1, .int p1)] := hl
  have hS : va_S (gA 31 κ) s.heap s.heap [] := va_S.rf
  have hA : ∀ k, k < 31 → gA 31 κ (κ k) := gA_in
  obtain ⟨hx, hb, hml, hown, hts⟩ := id S
  have hiX0 : ∀ w ∈ u_ws RX0 TX0 11, w ∈ wsX3_placeRegion := by decide +kernel
  have hiX3 : ∀ w ∈ u_ws RX3 TX3 3, w ∈ wsX3_placeRegion := by decide +kernel
  unfold fn_X3_placeRegion at hf
  refine lv_aload_n hx hb dX3_placeRegion_0 rfl (lv_at hl 0 rfl) ?_
  obtain ⟨σ1, hq1, hf⟩ := obw hf
  refine g_callv (va_runV (As := []) (rest := []) S (met_X3_needNet l D cI cII κ hκ σ σ1 hq1) (cwV 0 S.2.2.2.2 gX3_placeRegion_X3_needNet rfl rfl rfl (by decide +kernel) ⟨Nat.le_of_ble_eq_true rfl, Nat.le_of_ble_eq_true rfl⟩) (g_preV (N := 3) (T := TX3) hK hP (Nat.le_refl _) (by decide) rfl rfl) rfl rfl hl.1 rfl (lv_room (Nat.le_of_ble_eq_true rfl)) dX3_placeRegion_1 ⟨Nat.le_of_ble_eq_true rfl, Nat.le_of_ble_eq_true rfl⟩) (Nat.le_refl _) hκ hA hP hS (fun j h1 h2 => absurd h2 (Nat.not_lt.mpr h1)) (fun H locs hP hS => ?_)
  refine lv_iload_n hx hb dX3_placeRegion_4 rfl (lv_at hl 1 rfl) ?_
  obtain ⟨K19, hK19, hf⟩ := letb_w hf
  have J19 : ∀ (_u : Unit), K19 _u = some (r, σ') → ∀ (H : Heap) (locs : List Loc) (ls : Array Slot), va_P D vwCl (gw 31 κ (xC cI cII κ σ1)) H → va_S (gA 31 κ) s.heap H locs → lv_has ls 2 [] → W p l e ({ frames := 1, cells := 0, slots := 0, locals := 21 } : Room) s m args below meth c H locs 0 0 (MQ below (QI D cI cII 31 κ (xC cI cII κ σ') r) args s 0 0 (gA 31 κ)) (F0 m 19 ls []) := by
    intro _u hf H locs ls hP hS hl
    rw [hK19] at hf
    cases hf
  refine lv_if_lt (tgt := 19) hx hb dX3_placeRegion_5 (by decide) (fun c5 => ?_) (fun c5 => ?_)
  · have hf := iteT c5 hf
    exact J19 _ hf _ _ _ hP hS (lv_sub hl [] rfl)
  · have hf := iteF c5 hf
    refine lv_iload_n hx hb dX3_placeRegion_8 rfl (lv_at hl 1 rfl) ?_
    refine lv_aload_n hx hb dX3_placeRegion_9 rfl (lv_at hl 0 rfl) ?_
    refine g_get (q := 0) (ci := 3) (k := 2) (ref := RX3) (C := RX3) (T := TX3) (N := 3) (index := 30) (v := .ref (κ 3)) S hK hP hiX3 (by decide) rfl rfl (by decide) rfl (by decide +kernel) rfl dX3_placeRegion_10 ?_
    refine g_getN (q := 3) (ci := 0) (k := 3) (ref := RX0) (C := RX0) (T := TX0) (N := 11) (index := 141) (v := .int ((σ1.1 4))) S hK hP hiX0 (by decide) rfl rfl (by decide) rfl hK.2.2.2.2.2.2.1 rfl dX3_placeRegion_13 ?_
    refine lv_icmp_lt (tgt := 29) hx hb dX3_placeRegion_16 (by decide) (fun c16 => ?_) (fun c16 => ?_)
    · have hf := iteT c16 hf
      refine lv_aload_n hx hb dX3_placeRegion_29 rfl (lv_at hl 0 rfl) ?_
      refine g_get (q := 0) (ci := 3) (k := 2) (ref := RX3) (C := RX3) (T := TX3) (N := 3) (index := 30) (v := .ref (κ 3)) S hK hP hiX3 (by decide) rfl rfl (by decide) rfl (by decide +kernel) rfl dX3_placeRegion_30 ?_
      refine lv_iload_n hx hb dX3_placeRegion_33 rfl (lv_at hl 1 rfl) ?_
      obtain ⟨v2, hq34, hf⟩ := obw hf
      refine g_calli (va_runV (As := [.int p1]) (rest := []) S (met_X0_regionOf l D cI cII κ hκ σ1 p1 v2 hq34) (cwV 1 S.2.2.2.2 gX3_placeRegion_X0_regionOf rfl rfl rfl (by decide +kernel) ⟨Nat.le_of_ble_eq_true rfl, Nat.le_of_ble_eq_true rfl⟩) (g_preV (N := 11) (T := TX0) hK hP (Nat.le_refl _) (by decide) rfl rfl) rfl rfl hl.1 rfl (lv_room (Nat.le_of_ble_eq_true rfl)) dX3_placeRegion_34 ⟨Nat.le_of_ble_eq_true rfl, Nat.le_of_ble_eq_true rfl⟩) (Nat.le_refl _) hκ hA hP hS (fun j h1 h2 => absurd h2 (Nat.not_lt.mpr h1)) (fun H locs hP hS => ?_)
      obtain ⟨h8, h9⟩ := Prod.mk.inj (Option.some.inj hf)
      subst h9
      exact g_iret S hr hlk hK hP hS h8 dX3_placeRegion_37
    · have hf := iteF c16 hf
      exact J19 _ hf _ _ _ hP hS (lv_sub hl [] rfl)

set_option maxRecDepth 100000 in
set_option maxHeartbeats 4000000 in
theorem met_X3_fire (l : Launch) (D : va_G) (cI cII : ClassId) (κ : Nat → Nat) (hκ : Inj 31 κ) (σ : SX) (p1 : Int32) (r : Int32) (σ' : SX) (hf : fn_X3_fire σ p1 = some (r, σ')) : Met l yX3_fire wsX3_fire ({ frames := 2, cells := 0, slots := 0, locals := 43 } : Room) (va_Pc [.ref (κ 0), .int p1] (xP D cI cII κ σ)) (QI D cI cII 31 κ (xC cI cII κ σ') r) 0 0 (gA 31 κ) := by
  refine g_enter (cc := cX3_fire) (maxL := 2) (ret := (some .int)) (by decide) rfl (Nat.le_of_ble_eq_true rfl) ?_
  intro p e s m args below meth c ls S hr hlk _ hB hl
  have S : CallFix p m c cX3_fire 2 s args wsX3_fire RX3 := S
  obtain ⟨hP, hK⟩ := hB
  have hl : lv_has ls 2 [(0, .ref (κ 0)), (1, .int p1)] := hl
  have hS : va_S (gA 31 κ) s.heap s.heap [] := va_S.rf
  have hA : ∀ k, k < 31 → gA 31 κ (κ k) := gA_in
  obtain ⟨hx, hb, hml, hown, hts⟩ := id S
  have hiX0 : ∀ w ∈ u_ws RX0 TX0 11, w ∈ wsX3_fire := by decide +kernel
  have hiX3 : ∀ w ∈ u_ws RX3 TX3 3, w ∈ wsX3_fire := by decide +kernel
  unfold fn_X3_fire at hf
  refine lv_aload_n hx hb dX3_fire_0 rfl (lv_at hl 0 rfl) ?_
  obtain ⟨σ1, hq1, hf⟩ := obw hf
  refine g_callv (va_runV (As := []) (rest := []) S (met_X3_needNet l D cI cII κ hκ σ σ1 hq1) (cwV 0 S.2.2.2.2 gX3_fire_X3_needNet rfl rfl rfl (by decide +kernel) ⟨Nat.le_of_ble_eq_true rfl, Nat.le_of_ble_eq_true rfl⟩) (g_preV (N := 3) (T := TX3) hK hP (Nat.le_refl _) (by decide) rfl rfl) rfl rfl hl.1 rfl (lv_room (Nat.le_of_ble_eq_true rfl)) dX3_fire_1 ⟨Nat.le_of_ble_eq_true rfl, Nat.le_of_ble_eq_true rfl⟩) (Nat.le_refl _) hκ hA hP hS (fun j h1 h2 => absurd h2 (Nat.not_lt.mpr h1)) (fun H locs hP hS => ?_)
  refine lv_iload_n hx hb dX3_fire_4 rfl (lv_at hl 1 rfl) ?_
  obtain ⟨σ2, hq5, hf⟩ := obw hf
  refine g_callv (va_runS (As := [.int p1]) (rest := []) S (met_X3_needLabel l D cI cII κ hκ σ1 p1 σ2 hq5) (va_cwS 1 S.2.2.2.2 gX3_fire_X3_needLabel rfl rfl rfl (by decide +kernel) ⟨Nat.le_of_ble_eq_true rfl, Nat.le_of_ble_eq_true rfl⟩) (g_preS hK hP (Nat.le_refl _)) rfl rfl hl.1 rfl (lv_room (Nat.le_of_ble_eq_true rfl)) dX3_fire_5 ⟨Nat.le_of_ble_eq_true rfl, Nat.le_of_ble_eq_true rfl⟩) (Nat.le_refl _) hκ hA hP hS (fun j h1 h2 => absurd h2 (Nat.not_lt.mpr h1)) (fun H locs hP hS => ?_)
  refine lv_aload_n hx hb dX3_fire_8 rfl (lv_at hl 0 rfl) ?_
  refine g_get (q := 0) (ci := 3) (k := 2) (ref := RX3) (C := RX3) (T := TX3) (N := 3) (index := 30) (v := .ref (κ 3)) S hK hP hiX3 (by decide) rfl rfl (by decide) rfl (by decide +kernel) rfl dX3_fire_9 ?_
  refine lv_iload_n hx hb dX3_fire_12 rfl (lv_at hl 1 rfl) ?_
  refine lv_aload_n hx hb dX3_fire_13 rfl (lv_at hl 0 rfl) ?_
  refine g_get (q := 0) (ci := 3) (k := 2) (ref := RX3) (C := RX3) (T := TX3) (N := 3) (index := 30) (v := .ref (κ 3)) S hK hP hiX3 (by decide) rfl rfl (by decide) rfl (by decide +kernel) rfl dX3_fire_14 ?_
  refine g_getN (q := 3) (ci := 0) (k := 8) (ref := RX0) (C := RX0) (T := TX0) (N := 11) (index := 138) (v := .int ((σ2.1 6))) S hK hP hiX0 (by decide) rfl rfl (by decide) rfl hK.2.2.2.2.2.2.2.2.1 rfl dX3_fire_17 ?_
  obtain ⟨v3, hq20, hf⟩ := obw hf
  refine g_calli (va_runV (As := [.int p1, .int ((σ2.1 6))]) (rest := []) S (met_X0_canFire l D cI cII κ hκ σ2 p1 ((σ2.1 6)) v3 hq20) (cwV 2 S.2.2.2.2 gX3_fire_X0_canFire rfl rfl rfl (by decide +kernel) ⟨Nat.le_of_ble_eq_true rfl, Nat.le_of_ble_eq_true rfl⟩) (g_preV (N := 11) (T := TX0) hK hP (Nat.le_refl _) (by decide) rfl rfl) rfl rfl hl.1 rfl (lv_room (Nat.le_of_ble_eq_true rfl)) dX3_fire_20 ⟨Nat.le_of_ble_eq_true rfl, Nat.le_of_ble_eq_true rfl⟩) (Nat.le_refl _) hκ hA hP hS (fun j h1 h2 => absurd h2 (Nat.not_lt.mpr h1)) (fun H locs hP hS => ?_)
  refine lv_if_ne (tgt := 28) hx hb dX3_fire_23 (by decide) (fun c23 => ?_) (fun c23 => ?_)
  · have hf := iteT c23 hf
    refine lv_aload_n hx hb dX3_fire_28 rfl (lv_at hl 0 rfl) ?_
    refine g_get (q := 0) (ci := 3) (k := 2) (ref := RX3) (C := RX3) (T := TX3) (N := 3) (index := 30) (v := .ref (κ 3)) S hK hP hiX3 (by decide) rfl rfl (by decide) rfl (by decide +kernel) rfl dX3_fire_29 ?_
    refine lv_aload_n hx hb dX3_fire_32 rfl (lv_at hl 0 rfl) ?_
    refine g_get (q := 0) (ci := 3) (k := 2) (ref := RX3) (C := RX3) (T := TX3) (N := 3) (index := 30) (v := .ref (κ 3)) S hK hP hiX3 (by decide) rfl rfl (by decide) rfl (by decide +kernel) rfl dX3_fire_33 ?_
    refine lv_iload_n hx hb dX3_fire_36 rfl (lv_at hl 1 rfl) ?_
    refine lv_aload_n hx hb dX3_fire_37 rfl (lv_at hl 0 rfl) ?_
    refine g_get (q := 0) (ci := 3) (k := 2) (ref := RX3) (C := RX3) (T := TX3) (N := 3) (index := 30) (v := .ref (κ 3)) S hK hP hiX3 (by decide) rfl rfl (by decide) rfl (by decide +kernel) rfl dX3_fire_38 ?_
    refine g_getN (q := 3) (ci := 0) (k := 8) (ref := RX0) (C := RX0) (T := TX0) (N := 11) (index := 138) (v := .int ((σ2.1 6))) S hK hP hiX0 (by decide) rfl rfl (by decide) rfl hK.2.2.2.2.2.2.2.2.1 rfl dX3_fire_41 ?_
    obtain ⟨v4, hq44, hf⟩ := obw hf
    refine g_calli (va_runV (As := [.int p1, .int ((σ2.1 6))]) (rest := [.ref (κ 3)]) S (met_X0_behind l D cI cII κ hκ σ2 p1 ((σ2.1 6)) v4 hq44) (cwV 2 S.2.2.2.2 gX3_fire_X0_behind rfl rfl rfl (by decide +kernel) ⟨Nat.le_of_ble_eq_true rfl, Nat.le_of_ble_eq_true rfl⟩) (g_preV (N := 11) (T := TX0) hK hP (Nat.le_refl _) (by decide) rfl rfl) rfl rfl hl.1 rfl (lv_room (Nat.le_of_ble_eq_true rfl)) dX3_fire_44 ⟨Nat.le_of_ble_eq_true rfl, Nat.le_of_ble_eq_true rfl⟩) (Nat.le_refl _) hκ hA hP hS (fun j h1 h2 => absurd h2 (Nat.not_lt.mpr h1)) (fun H locs hP hS => ?_)
    obtain ⟨σ5, eσ5, hf⟩ := letb_w hf
    refine g_putN (q := 3) (ci := 0) (k := 8) (ref := RX0) (C := RX0) (T := TX0) (N := 11) (index := 138) (ty := .int) (f' := (xC cI cII κ σ5)) S hK hP hκ hA hS hiX0 tyX0_ok nmX0 (by decide) rfl rfl (by decide) rfl hK.2.2.2.2.2.2.2.2.1 rfl (by decide +kernel) rfl rfl (Nat.le_of_ble_eq_true rfl) (fun j _ => by rw [eσ5]; exact xC_p6 j) dX3_fire_47 (fun H locs hP hS => ?_)
    refine lv_aload_n hx hb dX3_fire_50 rfl (lv_at hl 0 rfl) ?_
    refine g_get (q := 0) (ci := 3) (k := 2) (ref := RX3) (C := RX3) (T := TX3) (N := 3) (index := 30) (v := .ref (κ 3)) S hK hP hiX3 (by decide) rfl rfl (by decide) rfl (by decide +kernel) rfl dX3_fire_51 ?_
    refine g_getN (q := 3) (ci := 0) (k := 8) (ref := RX0) (C := RX0) (T := TX0) (N := 11) (index := 138) (v := .int ((σ5.1 6))) S hK hP hiX0 (by decide) rfl rfl (by decide) rfl hK.2.2.2.2.2.2.2.2.1 rfl dX3_fire_54 ?_
    obtain ⟨h8, h9⟩ := Prod.mk.inj (Option.some.inj hf)
    subst h9
    exact g_iret S hr hlk hK hP hS h8 dX3_fire_57
  · have hf := iteN c23 hf
    refine lv_iconst (v := -1) hx hb dX3_fire_26 (by decide) ?_
    obtain ⟨h8, h9⟩ := Prod.mk.inj (Option.some.inj hf)
    subst h9
    exact g_iret S hr hlk hK hP hS h8 dX3_fire_27

set_option maxRecDepth 100000 in
set_option maxHeartbeats 4000000 in
theorem met_X3_markingCount (l : Launch) (D : va_G) (cI cII : ClassId) (κ : Nat → Nat) (hκ : Inj 31 κ) (σ : SX)  (r : Int32) (σ' : SX) (hf : fn_X3_markingCount σ  = some (r, σ')) : Met l yX3_markingCount wsX3_markingCount ({ frames := 4, cells := 0, slots := 0, locals := 85 } : Room) (va_Pc [.ref (κ 0)] (xP D cI cII κ σ)) (QI D cI cII 31 κ (xC cI cII κ σ') r) 0 0 (gA 31 κ) := by
  refine g_enter (cc := cX3_markingCount) (maxL := 1) (ret := (some .int)) (by decide) rfl (Nat.le_of_ble_eq_true rfl) ?_
  intro p e s m args below meth c ls S hr hlk _ hB hl
  have S : CallFix p m c cX3_markingCount 1 s args wsX3_markingCount RX3 := S
  obtain ⟨hP, hK⟩ := hB
  have hl : lv_has ls 1 [(0, .ref (κ 0))] := hl
  have hS : va_S (gA 31 κ) s.heap s.heap [] := va_S.rf
  have hA : ∀ k, k < 31 → gA 31 κ (κ k) := gA_in
  obtain ⟨hx, hb, hml, hown, hts⟩ := id S
  have hiX3 : ∀ w ∈ u_ws RX3 TX3 3, w ∈ wsX3_markingCount := by decide +kernel
  unfold fn_X3_markingCount at hf
  refine lv_aload_n hx hb dX3_markingCount_0 rfl (lv_at hl 0 rfl) ?_
  obtain ⟨σ1, hq1, hf⟩ := obw hf
  refine g_callv (va_runV (As := []) (rest := []) S (met_X3_needNet l D cI cII κ hκ σ σ1 hq1) (cwV 0 S.2.2.2.2 gX3_markingCount_X3_needNet rfl rfl rfl (by decide +kernel) ⟨Nat.le_of_ble_eq_true rfl, Nat.le_of_ble_eq_true rfl⟩) (g_preV (N := 3) (T := TX3) hK hP (Nat.le_refl _) (by decide) rfl rfl) rfl rfl hl.1 rfl (lv_room (Nat.le_of_ble_eq_true rfl)) dX3_markingCount_1 ⟨Nat.le_of_ble_eq_true rfl, Nat.le_of_ble_eq_true rfl⟩) (Nat.le_refl _) hκ hA hP hS (fun j h1 h2 => absurd h2 (Nat.not_lt.mpr h1)) (fun H locs hP hS => ?_)
  refine lv_aload_n hx hb dX3_markingCount_4 rfl (lv_at hl 0 rfl) ?_
  refine g_get (q := 0) (ci := 3) (k := 2) (ref := RX3) (C := RX3) (T := TX3) (N := 3) (index := 30) (v := .ref (κ 3)) S hK hP hiX3 (by decide) rfl rfl (by decide) rfl (by decide +kernel) rfl dX3_markingCount_5 ?_
  obtain ⟨v3, σ2, hq8, hf⟩ := bind2_w hf
  refine g_calli (va_runV (As := []) (rest := []) S (met_X0_markingsFound l D cI cII κ hκ σ1 v3 σ2 hq8) (cwV 0 S.2.2.2.2 gX3_markingCount_X0_markingsFound rfl rfl rfl (by decide +kernel) ⟨Nat.le_of_ble_eq_true rfl, Nat.le_of_ble_eq_true rfl⟩) (g_preV (N := 11) (T := TX0) hK hP (Nat.le_refl _) (by decide) rfl rfl) rfl rfl hl.1 rfl (lv_room (Nat.le_of_ble_eq_true rfl)) dX3_markingCount_8 ⟨Nat.le_of_ble_eq_true rfl, Nat.le_of_ble_eq_true rfl⟩) (Nat.le_refl _) hκ hA hP hS (fun j h1 h2 => absurd h2 (Nat.not_lt.mpr h1)) (fun H locs hP hS => ?_)
  obtain ⟨h8, h9⟩ := Prod.mk.inj (Option.some.inj hf)
  subst h9
  exact g_iret S hr hlk hK hP hS h8 dX3_markingCount_11

set_option maxRecDepth 100000 in
set_option maxHeartbeats 4000000 in
theorem met_X3_isFaithful (l : Launch) (D : va_G) (cI cII : ClassId) (κ : Nat → Nat) (hκ : Inj 31 κ) (σ : SX)  (r : Int32) (σ' : SX) (hf : fn_X3_isFaithful σ  = some (r, σ')) : Met l yX3_isFaithful wsX3_isFaithful ({ frames := 4, cells := 0, slots := 0, locals := 91 } : Room) (va_Pc [.ref (κ 0)] (xP D cI cII κ σ)) (QI D cI cII 31 κ (xC cI cII κ σ') r) 0 0 (gA 31 κ) := by
  refine g_enter (cc := cX3_isFaithful) (maxL := 1) (ret := (some .boolean)) (by decide) rfl (Nat.le_of_ble_eq_true rfl) ?_
  intro p e s m args below meth c ls S hr hlk _ hB hl
  have S : CallFix p m c cX3_isFaithful 1 s args wsX3_isFaithful RX3 := S
  obtain ⟨hP, hK⟩ := hB
  have hl : lv_has ls 1 [(0, .ref (κ 0))] := hl
  have hS : va_S (gA 31 κ) s.heap s.heap [] := va_S.rf
  have hA : ∀ k, k < 31 → gA 31 κ (κ k) := gA_in
  obtain ⟨hx, hb, hml, hown, hts⟩ := id S
  have hiX3 : ∀ w ∈ u_ws RX3 TX3 3, w ∈ wsX3_isFaithful := by decide +kernel
  unfold fn_X3_isFaithful at hf
  refine lv_aload_n hx hb dX3_isFaithful_0 rfl (lv_at hl 0 rfl) ?_
  obtain ⟨σ1, hq1, hf⟩ := obw hf
  refine g_callv (va_runV (As := []) (rest := []) S (met_X3_needNet l D cI cII κ hκ σ σ1 hq1) (cwV 0 S.2.2.2.2 gX3_isFaithful_X3_needNet rfl rfl rfl (by decide +kernel) ⟨Nat.le_of_ble_eq_true rfl, Nat.le_of_ble_eq_true rfl⟩) (g_preV (N := 3) (T := TX3) hK hP (Nat.le_refl _) (by decide) rfl rfl) rfl rfl hl.1 rfl (lv_room (Nat.le_of_ble_eq_true rfl)) dX3_isFaithful_1 ⟨Nat.le_of_ble_eq_true rfl, Nat.le_of_ble_eq_true rfl⟩) (Nat.le_refl _) hκ hA hP hS (fun j h1 h2 => absurd h2 (Nat.not_lt.mpr h1)) (fun H locs hP hS => ?_)
  refine lv_aload_n hx hb dX3_isFaithful_4 rfl (lv_at hl 0 rfl) ?_
  refine g_get (q := 0) (ci := 3) (k := 2) (ref := RX3) (C := RX3) (T := TX3) (N := 3) (index := 30) (v := .ref (κ 3)) S hK hP hiX3 (by decide) rfl rfl (by decide) rfl (by decide +kernel) rfl dX3_isFaithful_5 ?_
  obtain ⟨v2, hq8, hf⟩ := obw hf
  refine g_calli (va_runV (As := []) (rest := []) S (met_X0_behavesLikeSystem l D cI cII κ hκ σ1 v2 hq8) (cwV 0 S.2.2.2.2 gX3_isFaithful_X0_behavesLikeSystem rfl rfl rfl (by decide +kernel) ⟨Nat.le_of_ble_eq_true rfl, Nat.le_of_ble_eq_true rfl⟩) (g_preV (N := 11) (T := TX0) hK hP (Nat.le_refl _) (by decide) rfl rfl) rfl rfl hl.1 rfl (lv_room (Nat.le_of_ble_eq_true rfl)) dX3_isFaithful_8 ⟨Nat.le_of_ble_eq_true rfl, Nat.le_of_ble_eq_true rfl⟩) (Nat.le_refl _) hκ hA hP hS (fun j h1 h2 => absurd h2 (Nat.not_lt.mpr h1)) (fun H locs hP hS => ?_)
  obtain ⟨w9, hw9, hf⟩ := obw hf
  obtain ⟨h8, h9⟩ := Prod.mk.inj (Option.some.inj hf)
  subst h8
  subst h9
  exact g_zret S hr hlk hK hP hS hw9 dX3_isFaithful_11
