/-! by wip/whole/gen.py: walks: the machine computes the pure functions -/
set_option maxRecDepth 100000 in
set_option maxHeartbeats 4000000 in
theorem met_X3_fire (l : Launch) (hst : l.stackTraces = false) (D : va_G) (cI cII : ClassId) (κ : Nat → Nat) (hκ : Inj 31 κ) (σ : SX) (p1 : Int32) (sz : Nat) (R : Int32 ⊕ String) (σ' : SX) (hf : fn_X3_fire σ p1 = some (R, σ')) : vx_Met l yX3_fire wsX3_fire ({ frames := 7, cells := 2, slots := 12, locals := 102 } : Room) (va_Pc [.ref (κ 0), .int p1] (tP D cI cII 31 κ (xC cI cII κ σ) sz)) (TQI D cI cII 31 κ (xC cI cII κ σ') R (tA 31 κ sz)) (TXC D 31 κ (xC cI cII κ σ') R (tA 31 κ sz)) 2 12 (tA 31 κ sz) := by
  refine t_enter (cc := cX3_fire) (maxL := 2) (ret := (some .int)) (by decide) rfl (Nat.le_of_ble_eq_true rfl) ?_
  intro p e s m args below meth c ls S hr hlk htab hB hl
  have S : CallFix p m c cX3_fire 2 s args wsX3_fire RX3 := S
  obtain ⟨hsz, ⟨hP, hK⟩, hX, hZ⟩ := hB
  have hl : lv_has ls 2 [(0, .ref (κ 0)), (1, .int p1)] := hl
  have hS : va_S (tA 31 κ sz) s.heap s.heap [] := va_S.rf
  have hA : ∀ k, k < 31 → tA 31 κ sz (κ k) := tA_in
  have hA2 : ∀ q, s.heap.size ≤ q → tA 31 κ sz q := fun q h => Or.inr (hsz ▸ h)
  obtain ⟨hx, hb, hml, hown, hts⟩ := id S
  have hiX0 : ∀ w ∈ u_ws RX0 TX0 11, w ∈ wsX3_fire := by decide +kernel
  have hiX3 : ∀ w ∈ u_ws RX3 TX3 3, w ∈ wsX3_fire := by decide +kernel
  unfold fn_X3_fire at hf
  refine lv_aload_n hx hb dX3_fire_0 rfl (lv_at hl 0 rfl) ?_
  refine t_callv (F := fun q => (xC cI cII κ q)) hf hlk htab (fun Rq σq h => vx_runV (As := []) (rest := []) S (met_X3_needNet l hst D cI cII κ hκ σ _ Rq σq h) (cwV 0 S.2.2.2.2 gX3_fire_X3_needNet rfl rfl rfl (by decide +kernel) ⟨Nat.le_of_ble_eq_true rfl, Nat.le_of_ble_eq_true rfl⟩) (t_preV (N := 3) (T := TX3) hK hX hZ hP hS (Nat.le_refl _) hA hA2 (by decide) rfl rfl) rfl rfl hl.1 rfl (lv_room (Nat.le_of_ble_eq_true rfl)) dX3_fire_1 ⟨Nat.le_of_ble_eq_true rfl, Nat.le_of_ble_eq_true rfl⟩) (Nat.le_refl _) hκ hA hA2 hP hS (fun σ1 j h1 h2 => absurd h2 (Nat.not_lt.mpr h1)) (Nat.le_of_ble_eq_true rfl) (Nat.le_of_ble_eq_true rfl) (fun σ1 H locs hf hP hS => ?_)
  refine lv_iload_n hx hb dX3_fire_4 rfl (lv_at hl 1 rfl) ?_
  refine t_callv (F := fun q => (xC cI cII κ q)) hf hlk htab (fun Rq σq h => vx_runS (As := [.int p1]) (rest := []) S (met_X3_needLabel l hst D cI cII κ hκ σ1 p1 _ Rq σq h) (va_cwS 1 S.2.2.2.2 gX3_fire_X3_needLabel rfl rfl rfl (by decide +kernel) ⟨Nat.le_of_ble_eq_true rfl, Nat.le_of_ble_eq_true rfl⟩) (t_preS hK hX hZ hP hS (Nat.le_refl _) hA hA2) rfl rfl hl.1 rfl (lv_room (Nat.le_of_ble_eq_true rfl)) dX3_fire_5 ⟨Nat.le_of_ble_eq_true rfl, Nat.le_of_ble_eq_true rfl⟩) (Nat.le_refl _) hκ hA hA2 hP hS (fun σ1 j h1 h2 => absurd h2 (Nat.not_lt.mpr h1)) (Nat.le_of_ble_eq_true rfl) (Nat.le_of_ble_eq_true rfl) (fun σ2 H locs hf hP hS => ?_)
  refine lv_aload_n hx hb dX3_fire_8 rfl (lv_at hl 0 rfl) ?_
  refine g_get (q := 0) (ci := 3) (k := 2) (ref := RX3) (C := RX3) (T := TX3) (N := 3) (index := 30) (v := .ref (κ 3)) S hK hP hiX3 (by decide) rfl rfl (by decide) rfl (by decide +kernel) rfl dX3_fire_9 ?_
  refine lv_iload_n hx hb dX3_fire_12 rfl (lv_at hl 1 rfl) ?_
  refine lv_aload_n hx hb dX3_fire_13 rfl (lv_at hl 0 rfl) ?_
  refine g_get (q := 0) (ci := 3) (k := 2) (ref := RX3) (C := RX3) (T := TX3) (N := 3) (index := 30) (v := .ref (κ 3)) S hK hP hiX3 (by decide) rfl rfl (by decide) rfl (by decide +kernel) rfl dX3_fire_14 ?_
  refine g_getN (q := 3) (ci := 0) (k := 8) (ref := RX0) (C := RX0) (T := TX0) (N := 11) (index := 138) (v := .int ((σ2.1 6))) S hK hP hiX0 (by decide) rfl rfl (by decide) rfl hK.2.2.2.2.2.2.2.2.1 rfl dX3_fire_17 ?_
  obtain ⟨v3, hq20, hf⟩ := obw hf
  refine g_calli (va_runV (As := [.int p1, .int ((σ2.1 6))]) (rest := []) S (met_X0_canFire l D cI cII κ hκ σ2 p1 ((σ2.1 6)) v3 hq20) (cwV 2 S.2.2.2.2 gX3_fire_X0_canFire rfl rfl rfl (by decide +kernel) ⟨Nat.le_of_ble_eq_true rfl, Nat.le_of_ble_eq_true rfl⟩) (g_preV (N := 11) (T := TX0) hK hP (Nat.le_refl _) (by decide) rfl rfl) rfl rfl hl.1 rfl (lv_room (Nat.le_of_ble_eq_true rfl)) dX3_fire_20 ⟨Nat.le_of_ble_eq_true rfl, Nat.le_of_ble_eq_true rfl⟩) (Nat.le_refl _) hκ hA hP hS (fun j h1 h2 => absurd h2 (Nat.not_lt.mpr h1)) (fun H locs hP hS => ?_)
  refine lv_if_ne (tgt := 28) hx hb dX3_fire_23 (by decide) (fun c23 => ?_) (fun c23 => ?_)
  · have hf := iteT c23 hf
    refine lv_aload_n hx hb dX3_fire_28 rfl (lv_at hl 0 rfl) ?_
    refine g_get (q := 0) (ci := 3) (k := 2) (ref := RX3) (C := RX3) (T := TX3) (N := 3) (index := 30) (v := .ref (κ 3)) S hK hP hiX3 (by decide) rfl rfl (by decide) rfl (by decide +kernel) rfl dX3_fire_29 ?_
    refine lv_aload_n hx hb dX3_fire_32 rfl (lv_at hl 0 rfl) ?_
    refine g_get (q := 0) (ci := 3) (k := 2) (ref := RX3) (C := RX3) (T := TX3) (N := 3) (index := 30) (v := .ref (κ 3)) S hK hP hiX3 (by decide) rfl rfl (by decide) rfl (by decide +kernel) rfl dX3_fire_33 ?_
    refine lv_iload_n hx hb dX3_fire_36 rfl (lv_at hl 1 rfl) ?_
    refine lv_aload_n hx hb dX3_fire_37 rfl (lv_at hl 0 rfl) ?_
    refine g_get (q := 0) (ci := 3) (k := 2) (ref := RX3) (C := RX3) (T := TX3) (N := 3) (index := 30) (v := .ref (κ 3)) S hK hP hiX3 (by decide) rfl rfl (by decide) rfl (by decide +kernel) rfl dX3_fire_38 ?_
    refine g_getN (q := 3) (ci := 0) (k := 8) (ref := RX0) (C := RX0) (T := TX0) (N := 11) (index := 138) (v := .int ((σ2.1 6))) S hK hP hiX0 (by decide) rfl rfl (by decide) rfl hK.2.2.2.2.2.2.2.2.1 rfl dX3_fire_41 ?_
    obtain ⟨v4, hq44, hf⟩ := obw hf
    refine g_calli (va_runV (As := [.int p1, .int ((σ2.1 6))]) (rest := [.ref (κ 3)]) S (met_X0_behind l D cI cII κ hκ σ2 p1 ((σ2.1 6)) v4 hq44) (cwV 2 S.2.2.2.2 gX3_fire_X0_behind rfl rfl rfl (by decide +kernel) ⟨Nat.le_of_ble_eq_true rfl, Nat.le_of_ble_eq_true rfl⟩) (g_preV (N := 11) (T := TX0) hK hP (Nat.le_refl _) (by decide) rfl rfl) rfl rfl hl.1 rfl (lv_room (Nat.le_of_ble_eq_true rfl)) dX3_fire_44 ⟨Nat.le_of_ble_eq_true rfl, Nat.le_of_ble_eq_true rfl⟩) (Nat.le_refl _) hκ hA hP hS (fun j h1 h2 => absurd h2 (Nat.not_lt.mpr h1)) (fun H locs hP hS => ?_)
    obtain ⟨σ5, eσ5, hf⟩ := letb_w hf
    refine g_putN (q := 3) (ci := 0) (k := 8) (ref := RX0) (C := RX0) (T := TX0) (N := 11) (index := 138) (ty := .int) (f' := (xC cI cII κ σ5)) S hK hP hκ hA hS hiX0 tyX0_ok nmX0 (by decide) rfl rfl (by decide) rfl hK.2.2.2.2.2.2.2.2.1 rfl (by decide +kernel) rfl rfl (Nat.le_of_ble_eq_true rfl) (fun j _ => by rw [eσ5]; exact xC_p6 j) dX3_fire_47 (fun H locs hP hS => ?_)
    refine lv_aload_n hx hb dX3_fire_50 rfl (lv_at hl 0 rfl) ?_
    refine g_get (q := 0) (ci := 3) (k := 2) (ref := RX3) (C := RX3) (T := TX3) (N := 3) (index := 30) (v := .ref (κ 3)) S hK hP hiX3 (by decide) rfl rfl (by decide) rfl (by decide +kernel) rfl dX3_fire_51 ?_
    refine g_getN (q := 3) (ci := 0) (k := 8) (ref := RX0) (C := RX0) (T := TX0) (N := 11) (index := 138) (v := .int ((σ5.1 6))) S hK hP hiX0 (by decide) rfl rfl (by decide) rfl hK.2.2.2.2.2.2.2.2.1 rfl dX3_fire_54 ?_
    obtain ⟨h8, h9⟩ := Prod.mk.inj (Option.some.inj hf)
    subst h9
    exact t_iret S hr hlk hP hS h8.symm (Nat.le_of_ble_eq_true rfl) (Nat.le_of_ble_eq_true rfl) dX3_fire_57
  · have hf := iteN c23 hf
    refine lv_iconst (v := -1) hx hb dX3_fire_26 (by decide) ?_
    obtain ⟨h8, h9⟩ := Prod.mk.inj (Option.some.inj hf)
    subst h9
    exact t_iret S hr hlk hP hS h8.symm (Nat.le_of_ble_eq_true rfl) (Nat.le_of_ble_eq_true rfl) dX3_fire_27

set_option maxRecDepth 100000 in
set_option maxHeartbeats 4000000 in
theorem met_X3_markingCount (l : Launch) (hst : l.stackTraces = false) (D : va_G) (cI cII : ClassId) (κ : Nat → Nat) (hκ : Inj 31 κ) (σ : SX)  (sz : Nat) (R : Int32 ⊕ String) (σ' : SX) (hf : fn_X3_markingCount σ  = some (R, σ')) : vx_Met l yX3_markingCount wsX3_markingCount ({ frames := 7, cells := 1, slots := 6, locals := 102 } : Room) (va_Pc [.ref (κ 0)] (tP D cI cII 31 κ (xC cI cII κ σ) sz)) (TQI D cI cII 31 κ (xC cI cII κ σ') R (tA 31 κ sz)) (TXC D 31 κ (xC cI cII κ σ') R (tA 31 κ sz)) 1 6 (tA 31 κ sz) := by
  refine t_enter (cc := cX3_markingCount) (maxL := 1) (ret := (some .int)) (by decide) rfl (Nat.le_of_ble_eq_true rfl) ?_
  intro p e s m args below meth c ls S hr hlk htab hB hl
  have S : CallFix p m c cX3_markingCount 1 s args wsX3_markingCount RX3 := S
  obtain ⟨hsz, ⟨hP, hK⟩, hX, hZ⟩ := hB
  have hl : lv_has ls 1 [(0, .ref (κ 0))] := hl
  have hS : va_S (tA 31 κ sz) s.heap s.heap [] := va_S.rf
  have hA : ∀ k, k < 31 → tA 31 κ sz (κ k) := tA_in
  have hA2 : ∀ q, s.heap.size ≤ q → tA 31 κ sz q := fun q h => Or.inr (hsz ▸ h)
  obtain ⟨hx, hb, hml, hown, hts⟩ := id S
  have hiX3 : ∀ w ∈ u_ws RX3 TX3 3, w ∈ wsX3_markingCount := by decide +kernel
  unfold fn_X3_markingCount at hf
  refine lv_aload_n hx hb dX3_markingCount_0 rfl (lv_at hl 0 rfl) ?_
  refine t_callv (F := fun q => (xC cI cII κ q)) hf hlk htab (fun Rq σq h => vx_runV (As := []) (rest := []) S (met_X3_needNet l hst D cI cII κ hκ σ _ Rq σq h) (cwV 0 S.2.2.2.2 gX3_markingCount_X3_needNet rfl rfl rfl (by decide +kernel) ⟨Nat.le_of_ble_eq_true rfl, Nat.le_of_ble_eq_true rfl⟩) (t_preV (N := 3) (T := TX3) hK hX hZ hP hS (Nat.le_refl _) hA hA2 (by decide) rfl rfl) rfl rfl hl.1 rfl (lv_room (Nat.le_of_ble_eq_true rfl)) dX3_markingCount_1 ⟨Nat.le_of_ble_eq_true rfl, Nat.le_of_ble_eq_true rfl⟩) (Nat.le_refl _) hκ hA hA2 hP hS (fun σ1 j h1 h2 => absurd h2 (Nat.not_lt.mpr h1)) (Nat.le_of_ble_eq_true rfl) (Nat.le_of_ble_eq_true rfl) (fun σ1 H locs hf hP hS => ?_)
  refine lv_aload_n hx hb dX3_markingCount_4 rfl (lv_at hl 0 rfl) ?_
  refine g_get (q := 0) (ci := 3) (k := 2) (ref := RX3) (C := RX3) (T := TX3) (N := 3) (index := 30) (v := .ref (κ 3)) S hK hP hiX3 (by decide) rfl rfl (by decide) rfl (by decide +kernel) rfl dX3_markingCount_5 ?_
  obtain ⟨v3, σ2, hq8, hf⟩ := bind2_w hf
  refine g_calli (va_runV (As := []) (rest := []) S (met_X0_markingsFound l D cI cII κ hκ σ1 v3 σ2 hq8) (cwV 0 S.2.2.2.2 gX3_markingCount_X0_markingsFound rfl rfl rfl (by decide +kernel) ⟨Nat.le_of_ble_eq_true rfl, Nat.le_of_ble_eq_true rfl⟩) (g_preV (N := 11) (T := TX0) hK hP (Nat.le_refl _) (by decide) rfl rfl) rfl rfl hl.1 rfl (lv_room (Nat.le_of_ble_eq_true rfl)) dX3_markingCount_8 ⟨Nat.le_of_ble_eq_true rfl, Nat.le_of_ble_eq_true rfl⟩) (Nat.le_refl _) hκ hA hP hS (fun j h1 h2 => absurd h2 (Nat.not_lt.mpr h1)) (fun H locs hP hS => ?_)
  obtain ⟨h8, h9⟩ := Prod.mk.inj (Option.some.inj hf)
  subst h9
  exact t_iret S hr hlk hP hS h8.symm (Nat.le_of_ble_eq_true rfl) (Nat.le_of_ble_eq_true rfl) dX3_markingCount_11

set_option maxRecDepth 100000 in
set_option maxHeartbeats 4000000 in
theorem met_X3_markingAt (l : Launch) (hst : l.stackTraces = false) (D : va_G) (cI cII : ClassId) (κ : Nat → Nat) (hκ : Inj 31 κ) (σ : SX) (p1 : Int32) (sz : Nat) (R : Int32 ⊕ String) (σ' : SX) (hf : fn_X3_markingAt σ p1 = some (R, σ')) : vx_Met l yX3_markingAt wsX3_markingAt ({ frames := 7, cells := 2, slots := 12, locals := 102 } : Room) (va_Pc [.ref (κ 0), .int p1] (tP D cI cII 31 κ (xC cI cII κ σ) sz)) (TQI D cI cII 31 κ (xC cI cII κ σ') R (tA 31 κ sz)) (TXC D 31 κ (xC cI cII κ σ') R (tA 31 κ sz)) 2 12 (tA 31 κ sz) := by
  refine t_enter (cc := cX3_markingAt) (maxL := 2) (ret := (some .int)) (by decide) rfl (Nat.le_of_ble_eq_true rfl) ?_
  intro p e s m args below meth c ls S hr hlk htab hB hl
  have S : CallFix p m c cX3_markingAt 2 s args wsX3_markingAt RX3 := S
  obtain ⟨hsz, ⟨hP, hK⟩, hX, hZ⟩ := hB
  have hl : lv_has ls 2 [(0, .ref (κ 0)), (1, .int p1)] := hl
  have hS : va_S (tA 31 κ sz) s.heap s.heap [] := va_S.rf
  have hA : ∀ k, k < 31 → tA 31 κ sz (κ k) := tA_in
  have hA2 : ∀ q, s.heap.size ≤ q → tA 31 κ sz q := fun q h => Or.inr (hsz ▸ h)
  obtain ⟨hx, hb, hml, hown, hts⟩ := id S
  have hiX3 : ∀ w ∈ u_ws RX3 TX3 3, w ∈ wsX3_markingAt := by decide +kernel
  unfold fn_X3_markingAt at hf
  refine lv_aload_n hx hb dX3_markingAt_0 rfl (lv_at hl 0 rfl) ?_
  refine t_callv (F := fun q => (xC cI cII κ q)) hf hlk htab (fun Rq σq h => vx_runV (As := []) (rest := []) S (met_X3_needNet l hst D cI cII κ hκ σ _ Rq σq h) (cwV 0 S.2.2.2.2 gX3_markingAt_X3_needNet rfl rfl rfl (by decide +kernel) ⟨Nat.le_of_ble_eq_true rfl, Nat.le_of_ble_eq_true rfl⟩) (t_preV (N := 3) (T := TX3) hK hX hZ hP hS (Nat.le_refl _) hA hA2 (by decide) rfl rfl) rfl rfl hl.1 rfl (lv_room (Nat.le_of_ble_eq_true rfl)) dX3_markingAt_1 ⟨Nat.le_of_ble_eq_true rfl, Nat.le_of_ble_eq_true rfl⟩) (Nat.le_refl _) hκ hA hA2 hP hS (fun σ1 j h1 h2 => absurd h2 (Nat.not_lt.mpr h1)) (Nat.le_of_ble_eq_true rfl) (Nat.le_of_ble_eq_true rfl) (fun σ1 H locs hf hP hS => ?_)
  refine lv_iload_n hx hb dX3_markingAt_4 rfl (lv_at hl 1 rfl) ?_
  obtain ⟨K19, hK19, hf⟩ := letb_w hf
  have J19 : ∀ (τ_19 : SX), K19 τ_19 = some (R, σ') → ∀ (H : Heap) (locs : List Loc) (ls : Array Slot), va_P D vwCl (gw 31 κ (xC cI cII κ τ_19)) H → va_S (tA 31 κ sz) s.heap H locs → lv_has ls 2 [] → W p l e ({ frames := 7, cells := 2, slots := 12, locals := 102 } : Room) s m args below meth c H locs (0 + 1) (0 + 6) (vx_MQ below (TQI D cI cII 31 κ (xC cI cII κ σ') R (tA 31 κ sz)) (TXC D 31 κ (xC cI cII κ σ') R (tA 31 κ sz)) args s 2 12 (tA 31 κ sz)) (F0 m 19 ls []) := by
    intro τ_19 hf H locs ls hP hS hl
    rw [hK19] at hf
    obtain ⟨h8, h9⟩ := Prod.mk.inj (Option.some.inj hf)
    subst h9
    exact t_throw (cls := "java/lang/IndexOutOfBoundsException") (text := "no such marking") (ik := 147) (is := 171) (ic := 151) S hst hlk hP hS hZ htab hX.2.2.2.1 (by decide +kernel) (by decide +kernel) (by decide +kernel) (by decide +kernel) ng1 hX.2.2.2.2.2.2.2.2.2.1 hX.2.2.2.2.2.2.2.2.2.2.2.2 (by decide +kernel) hl.1 h8.symm dX3_markingAt_19 dX3_markingAt_22 dX3_markingAt_23 dX3_markingAt_25 dX3_markingAt_28 (Nat.le_of_ble_eq_true rfl) (Nat.le_of_ble_eq_true rfl) (Nat.le_of_ble_eq_true rfl) (Nat.le_of_ble_eq_true rfl) (Nat.le_of_ble_eq_true rfl) (Nat.le_of_ble_eq_true rfl)
  refine lv_if_lt (tgt := 19) hx hb dX3_markingAt_5 (by decide) (fun c5 => ?_) (fun c5 => ?_)
  · have hf := iteT c5 hf
    exact J19 _ hf _ _ _ hP hS (lv_sub hl [] rfl)
  · have hf := iteF c5 hf
    refine lv_iload_n hx hb dX3_markingAt_8 rfl (lv_at hl 1 rfl) ?_
    refine lv_aload_n hx hb dX3_markingAt_9 rfl (lv_at hl 0 rfl) ?_
    refine g_get (q := 0) (ci := 3) (k := 2) (ref := RX3) (C := RX3) (T := TX3) (N := 3) (index := 30) (v := .ref (κ 3)) S hK hP hiX3 (by decide) rfl rfl (by decide) rfl (by decide +kernel) rfl dX3_markingAt_10 ?_
    obtain ⟨v3, σ2, hq13, hf⟩ := bind2_w hf
    refine g_calli (va_runV (As := []) (rest := [.int p1]) S (met_X0_markingsFound l D cI cII κ hκ σ1 v3 σ2 hq13) (cwV 0 S.2.2.2.2 gX3_markingAt_X0_markingsFound rfl rfl rfl (by decide +kernel) ⟨Nat.le_of_ble_eq_true rfl, Nat.le_of_ble_eq_true rfl⟩) (g_preV (N := 11) (T := TX0) hK hP (Nat.le_refl _) (by decide) rfl rfl) rfl rfl hl.1 rfl (lv_room (Nat.le_of_ble_eq_true rfl)) dX3_markingAt_13 ⟨Nat.le_of_ble_eq_true rfl, Nat.le_of_ble_eq_true rfl⟩) (Nat.le_refl _) hκ hA hP hS (fun j h1 h2 => absurd h2 (Nat.not_lt.mpr h1)) (fun H locs hP hS => ?_)
    refine lv_icmp_lt (tgt := 29) hx hb dX3_markingAt_16 (by decide) (fun c16 => ?_) (fun c16 => ?_)
    · have hf := iteT c16 hf
      refine lv_aload_n hx hb dX3_markingAt_29 rfl (lv_at hl 0 rfl) ?_
      refine g_get (q := 0) (ci := 3) (k := 2) (ref := RX3) (C := RX3) (T := TX3) (N := 3) (index := 30) (v := .ref (κ 3)) S hK hP hiX3 (by decide) rfl rfl (by decide) rfl (by decide +kernel) rfl dX3_markingAt_30 ?_
      refine lv_iload_n hx hb dX3_markingAt_33 rfl (lv_at hl 1 rfl) ?_
      obtain ⟨v4, hq34, hf⟩ := obw hf
      refine g_calli (va_runV (As := [.int p1]) (rest := []) S (met_X0_markingFound l D cI cII κ hκ σ2 p1 v4 hq34) (cwV 1 S.2.2.2.2 gX3_markingAt_X0_markingFound rfl rfl rfl (by decide +kernel) ⟨Nat.le_of_ble_eq_true rfl, Nat.le_of_ble_eq_true rfl⟩) (g_preV (N := 11) (T := TX0) hK hP (Nat.le_refl _) (by decide) rfl rfl) rfl rfl hl.1 rfl (lv_room (Nat.le_of_ble_eq_true rfl)) dX3_markingAt_34 ⟨Nat.le_of_ble_eq_true rfl, Nat.le_of_ble_eq_true rfl⟩) (Nat.le_refl _) hκ hA hP hS (fun j h1 h2 => absurd h2 (Nat.not_lt.mpr h1)) (fun H locs hP hS => ?_)
      obtain ⟨h8, h9⟩ := Prod.mk.inj (Option.some.inj hf)
      subst h9
      exact t_iret S hr hlk hP hS h8.symm (Nat.le_of_ble_eq_true rfl) (Nat.le_of_ble_eq_true rfl) dX3_markingAt_37
    · have hf := iteF c16 hf
      exact J19 _ hf _ _ _ hP hS (lv_sub hl [] rfl)

set_option maxRecDepth 100000 in
set_option maxHeartbeats 4000000 in
theorem met_X3_isFaithful (l : Launch) (hst : l.stackTraces = false) (D : va_G) (cI cII : ClassId) (κ : Nat → Nat) (hκ : Inj 31 κ) (σ : SX)  (sz : Nat) (R : Int32 ⊕ String) (σ' : SX) (hf : fn_X3_isFaithful σ  = some (R, σ')) : vx_Met l yX3_isFaithful wsX3_isFaithful ({ frames := 7, cells := 1, slots := 6, locals := 102 } : Room) (va_Pc [.ref (κ 0)] (tP D cI cII 31 κ (xC cI cII κ σ) sz)) (TQI D cI cII 31 κ (xC cI cII κ σ') R (tA 31 κ sz)) (TXC D 31 κ (xC cI cII κ σ') R (tA 31 κ sz)) 1 6 (tA 31 κ sz) := by
  refine t_enter (cc := cX3_isFaithful) (maxL := 1) (ret := (some .boolean)) (by decide) rfl (Nat.le_of_ble_eq_true rfl) ?_
  intro p e s m args below meth c ls S hr hlk htab hB hl
  have S : CallFix p m c cX3_isFaithful 1 s args wsX3_isFaithful RX3 := S
  obtain ⟨hsz, ⟨hP, hK⟩, hX, hZ⟩ := hB
  have hl : lv_has ls 1 [(0, .ref (κ 0))] := hl
  have hS : va_S (tA 31 κ sz) s.heap s.heap [] := va_S.rf
  have hA : ∀ k, k < 31 → tA 31 κ sz (κ k) := tA_in
  have hA2 : ∀ q, s.heap.size ≤ q → tA 31 κ sz q := fun q h => Or.inr (hsz ▸ h)
  obtain ⟨hx, hb, hml, hown, hts⟩ := id S
  have hiX3 : ∀ w ∈ u_ws RX3 TX3 3, w ∈ wsX3_isFaithful := by decide +kernel
  unfold fn_X3_isFaithful at hf
  refine lv_aload_n hx hb dX3_isFaithful_0 rfl (lv_at hl 0 rfl) ?_
  refine t_callv (F := fun q => (xC cI cII κ q)) hf hlk htab (fun Rq σq h => vx_runV (As := []) (rest := []) S (met_X3_needNet l hst D cI cII κ hκ σ _ Rq σq h) (cwV 0 S.2.2.2.2 gX3_isFaithful_X3_needNet rfl rfl rfl (by decide +kernel) ⟨Nat.le_of_ble_eq_true rfl, Nat.le_of_ble_eq_true rfl⟩) (t_preV (N := 3) (T := TX3) hK hX hZ hP hS (Nat.le_refl _) hA hA2 (by decide) rfl rfl) rfl rfl hl.1 rfl (lv_room (Nat.le_of_ble_eq_true rfl)) dX3_isFaithful_1 ⟨Nat.le_of_ble_eq_true rfl, Nat.le_of_ble_eq_true rfl⟩) (Nat.le_refl _) hκ hA hA2 hP hS (fun σ1 j h1 h2 => absurd h2 (Nat.not_lt.mpr h1)) (Nat.le_of_ble_eq_true rfl) (Nat.le_of_ble_eq_true rfl) (fun σ1 H locs hf hP hS => ?_)
  refine lv_aload_n hx hb dX3_isFaithful_4 rfl (lv_at hl 0 rfl) ?_
  refine g_get (q := 0) (ci := 3) (k := 2) (ref := RX3) (C := RX3) (T := TX3) (N := 3) (index := 30) (v := .ref (κ 3)) S hK hP hiX3 (by decide) rfl rfl (by decide) rfl (by decide +kernel) rfl dX3_isFaithful_5 ?_
  obtain ⟨v2, hq8, hf⟩ := obw hf
  refine g_calli (va_runV (As := []) (rest := []) S (met_X0_behavesLikeSystem l D cI cII κ hκ σ1 v2 hq8) (cwV 0 S.2.2.2.2 gX3_isFaithful_X0_behavesLikeSystem rfl rfl rfl (by decide +kernel) ⟨Nat.le_of_ble_eq_true rfl, Nat.le_of_ble_eq_true rfl⟩) (g_preV (N := 11) (T := TX0) hK hP (Nat.le_refl _) (by decide) rfl rfl) rfl rfl hl.1 rfl (lv_room (Nat.le_of_ble_eq_true rfl)) dX3_isFaithful_8 ⟨Nat.le_of_ble_eq_true rfl, Nat.le_of_ble_eq_true rfl⟩) (Nat.le_refl _) hκ hA hP hS (fun j h1 h2 => absurd h2 (Nat.not_lt.mpr h1)) (fun H locs hP hS => ?_)
  obtain ⟨w9, hw9, hf⟩ := obw hf
  obtain ⟨h8, h9⟩ := Prod.mk.inj (Option.some.inj hf)
  subst h9
  exact t_zret S hr hlk hP hS hw9 h8.symm (Nat.le_of_ble_eq_true rfl) (Nat.le_of_ble_eq_true rfl) dX3_isFaithful_11
