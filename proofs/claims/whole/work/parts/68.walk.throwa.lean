/-! by wip/whole/gen.py: walks: the machine computes the pure functions -/
set_option maxRecDepth 100000 in
set_option maxHeartbeats 4000000 in
theorem met_X3_needState (l : Launch) (hst : l.stackTraces = false) (D : va_G) (cI cII : ClassId) (κ : Nat → Nat) (hκ : Inj 31 κ) (σ : SX) (p1 : Int32) (sz : Nat) (R : Unit ⊕ String) (σ' : SX) (hf : fn_X3_needState σ p1 = some (R, σ')) : vx_Met l yX3_needState wsX3_needState ({ frames := 6, cells := 1, slots := 6, locals := 82 } : Room) (va_Pc [.ref (κ 0), .int p1] (tP D cI cII 31 κ (xC cI cII κ σ) sz)) (TQV D cI cII 31 κ (xC cI cII κ σ') R (tA 31 κ sz)) (TXC D 31 κ (xC cI cII κ σ') R (tA 31 κ sz)) 1 6 (tA 31 κ sz) := by
  refine t_enter (cc := cX3_needState) (maxL := 2) (ret := none) (by decide) rfl (Nat.le_of_ble_eq_true rfl) ?_
  intro p e s m args below meth c ls S hr hlk htab hB hl
  have S : CallFix p m c cX3_needState 2 s args wsX3_needState RX3 := S
  obtain ⟨hsz, ⟨hP, hK⟩, hX, hZ⟩ := hB
  have hl : lv_has ls 2 [(0, .ref (κ 0)), (1, .int p1)] := hl
  have hS : va_S (tA 31 κ sz) s.heap s.heap [] := va_S.rf
  have hA : ∀ k, k < 31 → tA 31 κ sz (κ k) := tA_in
  have hA2 : ∀ q, s.heap.size ≤ q → tA 31 κ sz q := fun q h => Or.inr (hsz ▸ h)
  obtain ⟨hx, hb, hml, hown, hts⟩ := id S
  have hiX2 : ∀ w ∈ u_ws RX2 TX2 5, w ∈ wsX3_needState := by decide +kernel
  have hiX3 : ∀ w ∈ u_ws RX3 TX3 3, w ∈ wsX3_needState := by decide +kernel
  unfold fn_X3_needState at hf
  refine lv_iload_n hx hb dX3_needState_0 rfl (lv_at hl 1 rfl) ?_
  obtain ⟨K15, hK15, hf⟩ := letb_w hf
  have J15 : ∀ (_u : Unit), K15 _u = some (R, σ') → ∀ (H : Heap) (locs : List Loc) (ls : Array Slot), va_P D vwCl (gw 31 κ (xC cI cII κ σ)) H → va_S (tA 31 κ sz) s.heap H locs → lv_has ls 2 [] → W p l e ({ frames := 6, cells := 1, slots := 6, locals := 82 } : Room) s m args below meth c H locs 0 0 (vx_MQ below (TQV D cI cII 31 κ (xC cI cII κ σ') R (tA 31 κ sz)) (TXC D 31 κ (xC cI cII κ σ') R (tA 31 κ sz)) args s 1 6 (tA 31 κ sz)) (F0 m 15 ls []) := by
    intro _u hf H locs ls hP hS hl
    rw [hK15] at hf
    obtain ⟨h8, h9⟩ := Prod.mk.inj (Option.some.inj hf)
    subst h9
    exact t_throw (cls := "java/lang/IndexOutOfBoundsException") (text := "no such state") (ik := 147) (is := 191) (ic := 151) S hst hlk hP hS hZ htab hX.2.2.2.2.1 (by decide +kernel) (by decide +kernel) (by decide +kernel) (by decide +kernel) ng1 hX.2.2.2.2.2.2.2.2.2.1 hX.2.2.2.2.2.2.2.2.2.2.2.2 (by decide +kernel) hl.1 h8.symm dX3_needState_15 dX3_needState_18 dX3_needState_19 dX3_needState_21 dX3_needState_24 (Nat.le_of_ble_eq_true rfl) (Nat.le_of_ble_eq_true rfl) (Nat.le_of_ble_eq_true rfl) (Nat.le_of_ble_eq_true rfl) (Nat.le_of_ble_eq_true rfl) (Nat.le_of_ble_eq_true rfl)
  refine lv_if_lt (tgt := 15) hx hb dX3_needState_1 (by decide) (fun c1 => ?_) (fun c1 => ?_)
  · have hf := iteT c1 hf
    exact J15 _ hf _ _ _ hP hS (lv_sub hl [] rfl)
  · have hf := iteF c1 hf
    refine lv_iload_n hx hb dX3_needState_4 rfl (lv_at hl 1 rfl) ?_
    refine lv_aload_n hx hb dX3_needState_5 rfl (lv_at hl 0 rfl) ?_
    refine g_get (q := 0) (ci := 3) (k := 0) (ref := RX3) (C := RX3) (T := TX3) (N := 3) (index := 10) (v := .ref (κ 1)) S hK hP hiX3 (by decide) rfl rfl (by decide) rfl (by decide +kernel) rfl dX3_needState_6 ?_
    refine g_getN (q := 1) (ci := 2) (k := 0) (ref := RX2) (C := RX2) (T := TX2) (N := 5) (index := 34) (v := .int ((σ.1 0))) S hK hP hiX2 (by decide) rfl rfl (by decide) rfl hK.2.1 rfl dX3_needState_9 ?_
    refine lv_icmp_lt (tgt := 25) hx hb dX3_needState_12 (by decide) (fun c12 => ?_) (fun c12 => ?_)
    · have hf := iteT c12 hf
      obtain ⟨h8, h9⟩ := Prod.mk.inj (Option.some.inj hf)
      subst h9
      exact t_vret S hr hlk hP hS h8.symm (Nat.le_of_ble_eq_true rfl) (Nat.le_of_ble_eq_true rfl) dX3_needState_25
    · have hf := iteF c12 hf
      exact J15 _ hf _ _ _ hP hS (lv_sub hl [] rfl)

set_option maxRecDepth 100000 in
set_option maxHeartbeats 4000000 in
theorem met_X3_needLabel (l : Launch) (hst : l.stackTraces = false) (D : va_G) (cI cII : ClassId) (κ : Nat → Nat) (hκ : Inj 31 κ) (σ : SX) (p1 : Int32) (sz : Nat) (R : Unit ⊕ String) (σ' : SX) (hf : fn_X3_needLabel σ p1 = some (R, σ')) : vx_Met l yX3_needLabel wsX3_needLabel ({ frames := 6, cells := 1, slots := 6, locals := 82 } : Room) (va_Pc [.int p1] (tP D cI cII 31 κ (xC cI cII κ σ) sz)) (TQV D cI cII 31 κ (xC cI cII κ σ') R (tA 31 κ sz)) (TXC D 31 κ (xC cI cII κ σ') R (tA 31 κ sz)) 1 6 (tA 31 κ sz) := by
  refine t_enter (cc := cX3_needLabel) (maxL := 1) (ret := none) (by decide) rfl (Nat.le_of_ble_eq_true rfl) ?_
  intro p e s m args below meth c ls S hr hlk htab hB hl
  have S : CallFix p m c cX3_needLabel 1 s args wsX3_needLabel RX3 := S
  obtain ⟨hsz, ⟨hP, hK⟩, hX, hZ⟩ := hB
  have hl : lv_has ls 1 [(0, .int p1)] := hl
  have hS : va_S (tA 31 κ sz) s.heap s.heap [] := va_S.rf
  have hA : ∀ k, k < 31 → tA 31 κ sz (κ k) := tA_in
  have hA2 : ∀ q, s.heap.size ≤ q → tA 31 κ sz q := fun q h => Or.inr (hsz ▸ h)
  obtain ⟨hx, hb, hml, hown, hts⟩ := id S
  unfold fn_X3_needLabel at hf
  refine lv_iload_n hx hb dX3_needLabel_0 rfl (lv_at hl 0 rfl) ?_
  obtain ⟨K10, hK10, hf⟩ := letb_w hf
  have J10 : ∀ (_u : Unit), K10 _u = some (R, σ') → ∀ (H : Heap) (locs : List Loc) (ls : Array Slot), va_P D vwCl (gw 31 κ (xC cI cII κ σ)) H → va_S (tA 31 κ sz) s.heap H locs → lv_has ls 1 [] → W p l e ({ frames := 6, cells := 1, slots := 6, locals := 82 } : Room) s m args below meth c H locs 0 0 (vx_MQ below (TQV D cI cII 31 κ (xC cI cII κ σ') R (tA 31 κ sz)) (TXC D 31 κ (xC cI cII κ σ') R (tA 31 κ sz)) args s 1 6 (tA 31 κ sz)) (F0 m 10 ls []) := by
    intro _u hf H locs ls hP hS hl
    rw [hK10] at hf
    obtain ⟨h8, h9⟩ := Prod.mk.inj (Option.some.inj hf)
    subst h9
    exact t_throw (cls := "java/lang/IndexOutOfBoundsException") (text := "no such label") (ik := 147) (is := 193) (ic := 151) S hst hlk hP hS hZ htab hX.2.2.2.2.2.1 (by decide +kernel) (by decide +kernel) (by decide +kernel) (by decide +kernel) ng1 hX.2.2.2.2.2.2.2.2.2.1 hX.2.2.2.2.2.2.2.2.2.2.2.2 (by decide +kernel) hl.1 h8.symm dX3_needLabel_10 dX3_needLabel_13 dX3_needLabel_14 dX3_needLabel_16 dX3_needLabel_19 (Nat.le_of_ble_eq_true rfl) (Nat.le_of_ble_eq_true rfl) (Nat.le_of_ble_eq_true rfl) (Nat.le_of_ble_eq_true rfl) (Nat.le_of_ble_eq_true rfl) (Nat.le_of_ble_eq_true rfl)
  refine lv_if_lt (tgt := 10) hx hb dX3_needLabel_1 (by decide) (fun c1 => ?_) (fun c1 => ?_)
  · have hf := iteT c1 hf
    exact J10 _ hf _ _ _ hP hS (lv_sub hl [] rfl)
  · have hf := iteF c1 hf
    refine lv_iload_n hx hb dX3_needLabel_4 rfl (lv_at hl 0 rfl) ?_
    refine lv_bipush (v := 6) hx hb dX3_needLabel_5 (by decide) ?_
    refine lv_icmp_lt (tgt := 20) hx hb dX3_needLabel_7 (by decide) (fun c7 => ?_) (fun c7 => ?_)
    · have hf := iteT c7 hf
      obtain ⟨h8, h9⟩ := Prod.mk.inj (Option.some.inj hf)
      subst h9
      exact t_vret S hr hlk hP hS h8.symm (Nat.le_of_ble_eq_true rfl) (Nat.le_of_ble_eq_true rfl) dX3_needLabel_20
    · have hf := iteF c7 hf
      exact J10 _ hf _ _ _ hP hS (lv_sub hl [] rfl)

set_option maxRecDepth 100000 in
set_option maxHeartbeats 4000000 in
theorem met_X3_needSet (l : Launch) (hst : l.stackTraces = false) (D : va_G) (cI cII : ClassId) (κ : Nat → Nat) (hκ : Inj 31 κ) (σ : SX) (p1 : Int32) (sz : Nat) (R : Unit ⊕ String) (σ' : SX) (hf : fn_X3_needSet σ p1 = some (R, σ')) : vx_Met l yX3_needSet wsX3_needSet ({ frames := 6, cells := 1, slots := 6, locals := 82 } : Room) (va_Pc [.ref (κ 0), .int p1] (tP D cI cII 31 κ (xC cI cII κ σ) sz)) (TQV D cI cII 31 κ (xC cI cII κ σ') R (tA 31 κ sz)) (TXC D 31 κ (xC cI cII κ σ') R (tA 31 κ sz)) 1 6 (tA 31 κ sz) := by
  refine t_enter (cc := cX3_needSet) (maxL := 2) (ret := none) (by decide) rfl (Nat.le_of_ble_eq_true rfl) ?_
  intro p e s m args below meth c ls S hr hlk htab hB hl
  have S : CallFix p m c cX3_needSet 2 s args wsX3_needSet RX3 := S
  obtain ⟨hsz, ⟨hP, hK⟩, hX, hZ⟩ := hB
  have hl : lv_has ls 2 [(0, .ref (κ 0)), (1, .int p1)] := hl
  have hS : va_S (tA 31 κ sz) s.heap s.heap [] := va_S.rf
  have hA : ∀ k, k < 31 → tA 31 κ sz (κ k) := tA_in
  have hA2 : ∀ q, s.heap.size ≤ q → tA 31 κ sz q := fun q h => Or.inr (hsz ▸ h)
  obtain ⟨hx, hb, hml, hown, hts⟩ := id S
  have hiX3 : ∀ w ∈ u_ws RX3 TX3 3, w ∈ wsX3_needSet := by decide +kernel
  unfold fn_X3_needSet at hf
  refine lv_iload_n hx hb dX3_needSet_0 rfl (lv_at hl 1 rfl) ?_
  obtain ⟨K15, hK15, hf⟩ := letb_w hf
  have J15 : ∀ (_u : Unit), K15 _u = some (R, σ') → ∀ (H : Heap) (locs : List Loc) (ls : Array Slot), va_P D vwCl (gw 31 κ (xC cI cII κ σ)) H → va_S (tA 31 κ sz) s.heap H locs → lv_has ls 2 [] → W p l e ({ frames := 6, cells := 1, slots := 6, locals := 82 } : Room) s m args below meth c H locs 0 0 (vx_MQ below (TQV D cI cII 31 κ (xC cI cII κ σ') R (tA 31 κ sz)) (TXC D 31 κ (xC cI cII κ σ') R (tA 31 κ sz)) args s 1 6 (tA 31 κ sz)) (F0 m 15 ls []) := by
    intro _u hf H locs ls hP hS hl
    rw [hK15] at hf
    obtain ⟨h8, h9⟩ := Prod.mk.inj (Option.some.inj hf)
    subst h9
    exact t_throw (cls := "java/lang/IllegalArgumentException") (text := "the set contains something that is no state") (ik := 198) (is := 200) (ic := 202) S hst hlk hP hS hZ htab hX.2.2.2.2.2.2.1 (by decide +kernel) (by decide +kernel) (by decide +kernel) (by decide +kernel) ng3 hX.2.2.2.2.2.2.2.2.2.2.2.1 hX.2.2.2.2.2.2.2.2.2.2.2.2 (by decide +kernel) hl.1 h8.symm dX3_needSet_15 dX3_needSet_18 dX3_needSet_19 dX3_needSet_21 dX3_needSet_24 (Nat.le_of_ble_eq_true rfl) (Nat.le_of_ble_eq_true rfl) (Nat.le_of_ble_eq_true rfl) (Nat.le_of_ble_eq_true rfl) (Nat.le_of_ble_eq_true rfl) (Nat.le_of_ble_eq_true rfl)
  refine lv_if_lt (tgt := 15) hx hb dX3_needSet_1 (by decide) (fun c1 => ?_) (fun c1 => ?_)
  · have hf := iteT c1 hf
    exact J15 _ hf _ _ _ hP hS (lv_sub hl [] rfl)
  · have hf := iteF c1 hf
    refine lv_iload_n hx hb dX3_needSet_4 rfl (lv_at hl 1 rfl) ?_
    refine lv_aload_n hx hb dX3_needSet_5 rfl (lv_at hl 0 rfl) ?_
    refine g_get (q := 0) (ci := 3) (k := 0) (ref := RX3) (C := RX3) (T := TX3) (N := 3) (index := 10) (v := .ref (κ 1)) S hK hP hiX3 (by decide) rfl rfl (by decide) rfl (by decide +kernel) rfl dX3_needSet_6 ?_
    obtain ⟨v1, hq9, hf⟩ := obw hf
    refine g_calli (va_runV (As := []) (rest := [.int p1]) S (met_X2_all l D cI cII κ hκ σ v1 hq9) (cwV 0 S.2.2.2.2 gX3_needSet_X2_all rfl rfl rfl (by decide +kernel) ⟨Nat.le_of_ble_eq_true rfl, Nat.le_of_ble_eq_true rfl⟩) (g_preV (N := 5) (T := TX2) hK hP (Nat.le_refl _) (by decide) rfl rfl) rfl rfl hl.1 rfl (lv_room (Nat.le_of_ble_eq_true rfl)) dX3_needSet_9 ⟨Nat.le_of_ble_eq_true rfl, Nat.le_of_ble_eq_true rfl⟩) (Nat.le_refl _) hκ hA hP hS (fun j h1 h2 => absurd h2 (Nat.not_lt.mpr h1)) (fun H locs hP hS => ?_)
    refine lv_icmp_le (tgt := 25) hx hb dX3_needSet_12 (by decide) (fun c12 => ?_) (fun c12 => ?_)
    · have hf := iteT c12 hf
      obtain ⟨h8, h9⟩ := Prod.mk.inj (Option.some.inj hf)
      subst h9
      exact t_vret S hr hlk hP hS h8.symm (Nat.le_of_ble_eq_true rfl) (Nat.le_of_ble_eq_true rfl) dX3_needSet_25
    · have hf := iteF c12 hf
      exact J15 _ hf _ _ _ hP hS (lv_sub hl [] rfl)

set_option maxRecDepth 100000 in
set_option maxHeartbeats 4000000 in
theorem met_X3_needRegion (l : Launch) (hst : l.stackTraces = false) (D : va_G) (cI cII : ClassId) (κ : Nat → Nat) (hκ : Inj 31 κ) (σ : SX) (p1 : Int32) (sz : Nat) (R : Unit ⊕ String) (σ' : SX) (hf : fn_X3_needRegion σ p1 = some (R, σ')) : vx_Met l yX3_needRegion wsX3_needRegion ({ frames := 6, cells := 1, slots := 6, locals := 89 } : Room) (va_Pc [.ref (κ 0), .int p1] (tP D cI cII 31 κ (xC cI cII κ σ) sz)) (TQV D cI cII 31 κ (xC cI cII κ σ') R (tA 31 κ sz)) (TXC D 31 κ (xC cI cII κ σ') R (tA 31 κ sz)) 1 6 (tA 31 κ sz) := by
  refine t_enter (cc := cX3_needRegion) (maxL := 2) (ret := none) (by decide) rfl (Nat.le_of_ble_eq_true rfl) ?_
  intro p e s m args below meth c ls S hr hlk htab hB hl
  have S : CallFix p m c cX3_needRegion 2 s args wsX3_needRegion RX3 := S
  obtain ⟨hsz, ⟨hP, hK⟩, hX, hZ⟩ := hB
  have hl : lv_has ls 2 [(0, .ref (κ 0)), (1, .int p1)] := hl
  have hS : va_S (tA 31 κ sz) s.heap s.heap [] := va_S.rf
  have hA : ∀ k, k < 31 → tA 31 κ sz (κ k) := tA_in
  have hA2 : ∀ q, s.heap.size ≤ q → tA 31 κ sz q := fun q h => Or.inr (hsz ▸ h)
  obtain ⟨hx, hb, hml, hown, hts⟩ := id S
  have hiX3 : ∀ w ∈ u_ws RX3 TX3 3, w ∈ wsX3_needRegion := by decide +kernel
  unfold fn_X3_needRegion at hf
  refine lv_iload_n hx hb dX3_needRegion_0 rfl (lv_at hl 1 rfl) ?_
  obtain ⟨K15, hK15, hf⟩ := letb_w hf
  have J15 : ∀ (τ_15 : SX), K15 τ_15 = some (R, σ') → ∀ (H : Heap) (locs : List Loc) (ls : Array Slot), va_P D vwCl (gw 31 κ (xC cI cII κ τ_15)) H → va_S (tA 31 κ sz) s.heap H locs → lv_has ls 2 [] → W p l e ({ frames := 6, cells := 1, slots := 6, locals := 89 } : Room) s m args below meth c H locs 0 0 (vx_MQ below (TQV D cI cII 31 κ (xC cI cII κ σ') R (tA 31 κ sz)) (TXC D 31 κ (xC cI cII κ σ') R (tA 31 κ sz)) args s 1 6 (tA 31 κ sz)) (F0 m 15 ls []) := by
    intro τ_15 hf H locs ls hP hS hl
    rw [hK15] at hf
    obtain ⟨h8, h9⟩ := Prod.mk.inj (Option.some.inj hf)
    subst h9
    exact t_throw (cls := "java/lang/IndexOutOfBoundsException") (text := "no such region") (ik := 147) (is := 203) (ic := 151) S hst hlk hP hS hZ htab hX.2.2.2.2.2.2.2.1 (by decide +kernel) (by decide +kernel) (by decide +kernel) (by decide +kernel) ng1 hX.2.2.2.2.2.2.2.2.2.1 hX.2.2.2.2.2.2.2.2.2.2.2.2 (by decide +kernel) hl.1 h8.symm dX3_needRegion_15 dX3_needRegion_18 dX3_needRegion_19 dX3_needRegion_21 dX3_needRegion_24 (Nat.le_of_ble_eq_true rfl) (Nat.le_of_ble_eq_true rfl) (Nat.le_of_ble_eq_true rfl) (Nat.le_of_ble_eq_true rfl) (Nat.le_of_ble_eq_true rfl) (Nat.le_of_ble_eq_true rfl)
  refine lv_if_lt (tgt := 15) hx hb dX3_needRegion_1 (by decide) (fun c1 => ?_) (fun c1 => ?_)
  · have hf := iteT c1 hf
    exact J15 _ hf _ _ _ hP hS (lv_sub hl [] rfl)
  · have hf := iteF c1 hf
    refine lv_iload_n hx hb dX3_needRegion_4 rfl (lv_at hl 1 rfl) ?_
    refine lv_aload_n hx hb dX3_needRegion_5 rfl (lv_at hl 0 rfl) ?_
    refine g_get (q := 0) (ci := 3) (k := 1) (ref := RX3) (C := RX3) (T := TX3) (N := 3) (index := 21) (v := .ref (κ 2)) S hK hP hiX3 (by decide) rfl rfl (by decide) rfl (by decide +kernel) rfl dX3_needRegion_6 ?_
    obtain ⟨v2, σ1, hq9, hf⟩ := bind2_w hf
    refine g_calli (va_runV (As := []) (rest := [.int p1]) S (met_X1_count l D cI cII κ hκ σ v2 σ1 hq9) (cwV 0 S.2.2.2.2 gX3_needRegion_X1_count rfl rfl rfl (by decide +kernel) ⟨Nat.le_of_ble_eq_true rfl, Nat.le_of_ble_eq_true rfl⟩) (g_preV (N := 4) (T := TX1) hK hP (Nat.le_refl _) (by decide) rfl rfl) rfl rfl hl.1 rfl (lv_room (Nat.le_of_ble_eq_true rfl)) dX3_needRegion_9 ⟨Nat.le_of_ble_eq_true rfl, Nat.le_of_ble_eq_true rfl⟩) (Nat.le_refl _) hκ hA hP hS (fun j h1 h2 => absurd h2 (Nat.not_lt.mpr h1)) (fun H locs hP hS => ?_)
    refine lv_icmp_lt (tgt := 25) hx hb dX3_needRegion_12 (by decide) (fun c12 => ?_) (fun c12 => ?_)
    · have hf := iteT c12 hf
      obtain ⟨h8, h9⟩ := Prod.mk.inj (Option.some.inj hf)
      subst h9
      exact t_vret S hr hlk hP hS h8.symm (Nat.le_of_ble_eq_true rfl) (Nat.le_of_ble_eq_true rfl) dX3_needRegion_25
    · have hf := iteF c12 hf
      exact J15 _ hf _ _ _ hP hS (lv_sub hl [] rfl)

set_option maxRecDepth 100000 in
set_option maxHeartbeats 4000000 in
theorem met_X3_needNet (l : Launch) (hst : l.stackTraces = false) (D : va_G) (cI cII : ClassId) (κ : Nat → Nat) (hκ : Inj 31 κ) (σ : SX)  (sz : Nat) (R : Unit ⊕ String) (σ' : SX) (hf : fn_X3_needNet σ  = some (R, σ')) : vx_Met l yX3_needNet wsX3_needNet ({ frames := 6, cells := 1, slots := 6, locals := 82 } : Room) (va_Pc [.ref (κ 0)] (tP D cI cII 31 κ (xC cI cII κ σ) sz)) (TQV D cI cII 31 κ (xC cI cII κ σ') R (tA 31 κ sz)) (TXC D 31 κ (xC cI cII κ σ') R (tA 31 κ sz)) 1 6 (tA 31 κ sz) := by
  refine t_enter (cc := cX3_needNet) (maxL := 1) (ret := none) (by decide) rfl (Nat.le_of_ble_eq_true rfl) ?_
  intro p e s m args below meth c ls S hr hlk htab hB hl
  have S : CallFix p m c cX3_needNet 1 s args wsX3_needNet RX3 := S
  obtain ⟨hsz, ⟨hP, hK⟩, hX, hZ⟩ := hB
  have hl : lv_has ls 1 [(0, .ref (κ 0))] := hl
  have hS : va_S (tA 31 κ sz) s.heap s.heap [] := va_S.rf
  have hA : ∀ k, k < 31 → tA 31 κ sz (κ k) := tA_in
  have hA2 : ∀ q, s.heap.size ≤ q → tA 31 κ sz q := fun q h => Or.inr (hsz ▸ h)
  obtain ⟨hx, hb, hml, hown, hts⟩ := id S
  have hiX0 : ∀ w ∈ u_ws RX0 TX0 11, w ∈ wsX3_needNet := by decide +kernel
  have hiX3 : ∀ w ∈ u_ws RX3 TX3 3, w ∈ wsX3_needNet := by decide +kernel
  unfold fn_X3_needNet at hf
  refine lv_aload_n hx hb dX3_needNet_0 rfl (lv_at hl 0 rfl) ?_
  refine g_get (q := 0) (ci := 3) (k := 2) (ref := RX3) (C := RX3) (T := TX3) (N := 3) (index := 30) (v := .ref (κ 3)) S hK hP hiX3 (by decide) rfl rfl (by decide) rfl (by decide +kernel) rfl dX3_needNet_1 ?_
  refine g_getN (q := 3) (ci := 0) (k := 2) (ref := RX0) (C := RX0) (T := TX0) (N := 11) (index := 128) (v := .int ((σ.1 3))) S hK hP hiX0 (by decide) rfl rfl (by decide) rfl hK.2.2.2.2.2.1 rfl dX3_needNet_4 ?_
  refine lv_if_ne (tgt := 20) hx hb dX3_needNet_7 (by decide) (fun c7 => ?_) (fun c7 => ?_)
  · have hf := iteT c7 hf
    obtain ⟨h8, h9⟩ := Prod.mk.inj (Option.some.inj hf)
    subst h9
    exact t_vret S hr hlk hP hS h8.symm (Nat.le_of_ble_eq_true rfl) (Nat.le_of_ble_eq_true rfl) dX3_needNet_20
  · have hf := iteN c7 hf
    obtain ⟨h8, h9⟩ := Prod.mk.inj (Option.some.inj hf)
    subst h9
    exact t_throw (cls := "java/lang/IllegalStateException") (text := "no net was made since the last change") (ik := 38) (is := 205) (ic := 42) S hst hlk hP hS hZ htab hX.2.2.2.2.2.2.2.2.1 (by decide +kernel) (by decide +kernel) (by decide +kernel) (by decide +kernel) ng2 hX.2.2.2.2.2.2.2.2.2.2.1 hX.2.2.2.2.2.2.2.2.2.2.2.2 (by decide +kernel) hl.1 h8.symm dX3_needNet_10 dX3_needNet_13 dX3_needNet_14 dX3_needNet_16 dX3_needNet_19 (Nat.le_of_ble_eq_true rfl) (Nat.le_of_ble_eq_true rfl) (Nat.le_of_ble_eq_true rfl) (Nat.le_of_ble_eq_true rfl) (Nat.le_of_ble_eq_true rfl) (Nat.le_of_ble_eq_true rfl)

set_option maxRecDepth 100000 in
set_option maxHeartbeats 4000000 in
theorem met_X3_addState (l : Launch) (hst : l.stackTraces = false) (D : va_G) (cI cII : ClassId) (κ : Nat → Nat) (hκ : Inj 31 κ) (σ : SX)  (sz : Nat) (R : Int32 ⊕ String) (σ' : SX) (hf : fn_X3_addState σ  = some (R, σ')) : vx_Met l yX3_addState wsX3_addState ({ frames := 6, cells := 1, slots := 6, locals := 82 } : Room) (va_Pc [.ref (κ 0)] (tP D cI cII 31 κ (xC cI cII κ σ) sz)) (TQI D cI cII 31 κ (xC cI cII κ σ') R (tA 31 κ sz)) (TXC D 31 κ (xC cI cII κ σ') R (tA 31 κ sz)) 1 6 (tA 31 κ sz) := by
  refine t_enter (cc := cX3_addState) (maxL := 2) (ret := (some .int)) (by decide) rfl (Nat.le_of_ble_eq_true rfl) ?_
  intro p e s m args below meth c ls S hr hlk htab hB hl
  have S : CallFix p m c cX3_addState 2 s args wsX3_addState RX3 := S
  obtain ⟨hsz, ⟨hP, hK⟩, hX, hZ⟩ := hB
  have hl : lv_has ls 2 [(0, .ref (κ 0))] := hl
  have hS : va_S (tA 31 κ sz) s.heap s.heap [] := va_S.rf
  have hA : ∀ k, k < 31 → tA 31 κ sz (κ k) := tA_in
  have hA2 : ∀ q, s.heap.size ≤ q → tA 31 κ sz q := fun q h => Or.inr (hsz ▸ h)
  obtain ⟨hx, hb, hml, hown, hts⟩ := id S
  have hiX2 : ∀ w ∈ u_ws RX2 TX2 5, w ∈ wsX3_addState := by decide +kernel
  have hiX3 : ∀ w ∈ u_ws RX3 TX3 3, w ∈ wsX3_addState := by decide +kernel
  unfold fn_X3_addState at hf
  refine lv_aload_n hx hb dX3_addState_0 rfl (lv_at hl 0 rfl) ?_
  refine g_get (q := 0) (ci := 3) (k := 0) (ref := RX3) (C := RX3) (T := TX3) (N := 3) (index := 10) (v := .ref (κ 1)) S hK hP hiX3 (by decide) rfl rfl (by decide) rfl (by decide +kernel) rfl dX3_addState_1 ?_
  refine g_getN (q := 1) (ci := 2) (k := 0) (ref := RX2) (C := RX2) (T := TX2) (N := 5) (index := 34) (v := .int ((σ.1 0))) S hK hP hiX2 (by decide) rfl rfl (by decide) rfl hK.2.1 rfl dX3_addState_4 ?_
  refine lv_bipush (v := 12) hx hb dX3_addState_7 (by decide) ?_
  refine lv_icmp_lt (tgt := 22) hx hb dX3_addState_9 (by decide) (fun c9 => ?_) (fun c9 => ?_)
  · have hf := iteT c9 hf
    refine lv_aload_n hx hb dX3_addState_22 rfl (lv_at hl 0 rfl) ?_
    refine g_get (q := 0) (ci := 3) (k := 0) (ref := RX3) (C := RX3) (T := TX3) (N := 3) (index := 10) (v := .ref (κ 1)) S hK hP hiX3 (by decide) rfl rfl (by decide) rfl (by decide +kernel) rfl dX3_addState_23 ?_
    refine g_getN (q := 1) (ci := 2) (k := 0) (ref := RX2) (C := RX2) (T := TX2) (N := 5) (index := 34) (v := .int ((σ.1 0))) S hK hP hiX2 (by decide) rfl rfl (by decide) rfl hK.2.1 rfl dX3_addState_26 ?_
    obtain ⟨v1, ev1, hf⟩ := letb_w hf
    refine lv_nmi ev1 ?_
    refine lv_istore_n (lv' := [(1, .int v1), (0, .ref (κ 0))]) hx hb dX3_addState_29 rfl hl (by decide) rfl (fun ls hl => ?_)
    refine lv_aload_n hx hb dX3_addState_30 rfl (lv_at hl 1 rfl) ?_
    refine g_get (q := 0) (ci := 3) (k := 0) (ref := RX3) (C := RX3) (T := TX3) (N := 3) (index := 10) (v := .ref (κ 1)) S hK hP hiX3 (by decide) rfl rfl (by decide) rfl (by decide +kernel) rfl dX3_addState_31 ?_
    refine lv_iload_n hx hb dX3_addState_34 rfl (lv_at hl 0 rfl) ?_
    refine lv_iconst (v := 1) hx hb dX3_addState_35 (by decide) ?_
    refine lv_iadd hx hb dX3_addState_36 ?_
    obtain ⟨σ2, eσ2, hf⟩ := letb_w hf
    refine g_putN (q := 1) (ci := 2) (k := 0) (ref := RX2) (C := RX2) (T := TX2) (N := 5) (index := 34) (ty := .int) (f' := (xC cI cII κ σ2)) S hK hP hκ hA hS hiX2 tyX2_ok nmX2 (by decide) rfl rfl (by decide) rfl hK.2.1 rfl (by decide +kernel) rfl rfl (Nat.le_of_ble_eq_true rfl) (fun j _ => by rw [eσ2]; exact xC_p0 j) dX3_addState_37 (fun H locs hP hS => ?_)
    refine lv_aload_n hx hb dX3_addState_40 rfl (lv_at hl 1 rfl) ?_
    obtain ⟨σ3, hq41, hf⟩ := obw hf
    refine g_callv (va_runV (As := []) (rest := []) S (met_X3_changed l D cI cII κ hκ σ2 σ3 hq41) (cwV 0 S.2.2.2.2 gX3_addState_X3_changed rfl rfl rfl (by decide +kernel) ⟨Nat.le_of_ble_eq_true rfl, Nat.le_of_ble_eq_true rfl⟩) (g_preV (N := 3) (T := TX3) hK hP (Nat.le_refl _) (by decide) rfl rfl) rfl rfl hl.1 rfl (lv_room (Nat.le_of_ble_eq_true rfl)) dX3_addState_41 ⟨Nat.le_of_ble_eq_true rfl, Nat.le_of_ble_eq_true rfl⟩) (Nat.le_refl _) hκ hA hP hS (fun j h1 h2 => absurd h2 (Nat.not_lt.mpr h1)) (fun H locs hP hS => ?_)
    refine lv_iload_n hx hb dX3_addState_44 rfl (lv_at hl 0 rfl) ?_
    obtain ⟨h8, h9⟩ := Prod.mk.inj (Option.some.inj hf)
    subst h9
    exact t_iret S hr hlk hP hS h8.symm (Nat.le_of_ble_eq_true rfl) (Nat.le_of_ble_eq_true rfl) dX3_addState_45
  · have hf := iteF c9 hf
    obtain ⟨h8, h9⟩ := Prod.mk.inj (Option.some.inj hf)
    subst h9
    exact t_throw (cls := "java/lang/IllegalStateException") (text := "there are 12 states") (ik := 38) (is := 40) (ic := 42) S hst hlk hP hS hZ htab hX.1 (by decide +kernel) (by decide +kernel) (by decide +kernel) (by decide +kernel) ng2 hX.2.2.2.2.2.2.2.2.2.2.1 hX.2.2.2.2.2.2.2.2.2.2.2.2 (by decide +kernel) hl.1 h8.symm dX3_addState_12 dX3_addState_15 dX3_addState_16 dX3_addState_18 dX3_addState_21 (Nat.le_of_ble_eq_true rfl) (Nat.le_of_ble_eq_true rfl) (Nat.le_of_ble_eq_true rfl) (Nat.le_of_ble_eq_true rfl) (Nat.le_of_ble_eq_true rfl) (Nat.le_of_ble_eq_true rfl)

set_option maxRecDepth 100000 in
set_option maxHeartbeats 4000000 in
theorem met_X3_step (l : Launch) (hst : l.stackTraces = false) (D : va_G) (cI cII : ClassId) (κ : Nat → Nat) (hκ : Inj 31 κ) (σ : SX) (p1 : Int32) (p2 : Int32) (p3 : Int32) (sz : Nat) (R : Int32 ⊕ String) (σ' : SX) (hf : fn_X3_step σ p1 p2 p3 = some (R, σ')) : vx_Met l yX3_step wsX3_step ({ frames := 7, cells := 3, slots := 18, locals := 103 } : Room) (va_Pc [.ref (κ 0), .int p1, .int p2, .int p3] (tP D cI cII 31 κ (xC cI cII κ σ) sz)) (TQI D cI cII 31 κ (xC cI cII κ σ') R (tA 31 κ sz)) (TXC D 31 κ (xC cI cII κ σ') R (tA 31 κ sz)) 3 18 (tA 31 κ sz) := by
  refine t_enter (cc := cX3_step) (maxL := 5) (ret := (some .int)) (by decide) rfl (Nat.le_of_ble_eq_true rfl) ?_
  intro p e s m args below meth c ls S hr hlk htab hB hl
  have S : CallFix p m c cX3_step 5 s args wsX3_step RX3 := S
  obtain ⟨hsz, ⟨hP, hK⟩, hX, hZ⟩ := hB
  have hl : lv_has ls 5 [(0, .ref (κ 0)), (1, .int p1), (2, .int p2), (3, .int p3)] := hl
  have hS : va_S (tA 31 κ sz) s.heap s.heap [] := va_S.rf
  have hA : ∀ k, k < 31 → tA 31 κ sz (κ k) := tA_in
  have hA2 : ∀ q, s.heap.size ≤ q → tA 31 κ sz q := fun q h => Or.inr (hsz ▸ h)
  obtain ⟨hx, hb, hml, hown, hts⟩ := id S
  have hiX3 : ∀ w ∈ u_ws RX3 TX3 3, w ∈ wsX3_step := by decide +kernel
  unfold fn_X3_step at hf
  refine lv_aload_n hx hb dX3_step_0 rfl (lv_at hl 0 rfl) ?_
  refine lv_iload_n hx hb dX3_step_1 rfl (lv_at hl 1 rfl) ?_
  refine t_callv (F := fun q => (xC cI cII κ q)) hf hlk htab (fun Rq σq h => vx_runV (As := [.int p1]) (rest := []) S (met_X3_needState l hst D cI cII κ hκ σ p1 _ Rq σq h) (cwV 1 S.2.2.2.2 gX3_step_X3_needState rfl rfl rfl (by decide +kernel) ⟨Nat.le_of_ble_eq_true rfl, Nat.le_of_ble_eq_true rfl⟩) (t_preV (N := 3) (T := TX3) hK hX hZ hP hS (Nat.le_refl _) hA hA2 (by decide) rfl rfl) rfl rfl hl.1 rfl (lv_room (Nat.le_of_ble_eq_true rfl)) dX3_step_2 ⟨Nat.le_of_ble_eq_true rfl, Nat.le_of_ble_eq_true rfl⟩) (Nat.le_refl _) hκ hA hA2 hP hS (fun σ1 j h1 h2 => absurd h2 (Nat.not_lt.mpr h1)) (Nat.le_of_ble_eq_true rfl) (Nat.le_of_ble_eq_true rfl) (fun σ1 H locs hf hP hS => ?_)
  refine lv_iload_n hx hb dX3_step_5 rfl (lv_at hl 2 rfl) ?_
  refine t_callv (F := fun q => (xC cI cII κ q)) hf hlk htab (fun Rq σq h => vx_runS (As := [.int p2]) (rest := []) S (met_X3_needLabel l hst D cI cII κ hκ σ1 p2 _ Rq σq h) (va_cwS 1 S.2.2.2.2 gX3_step_X3_needLabel rfl rfl rfl (by decide +kernel) ⟨Nat.le_of_ble_eq_true rfl, Nat.le_of_ble_eq_true rfl⟩) (t_preS hK hX hZ hP hS (Nat.le_refl _) hA hA2) rfl rfl hl.1 rfl (lv_room (Nat.le_of_ble_eq_true rfl)) dX3_step_6 ⟨Nat.le_of_ble_eq_true rfl, Nat.le_of_ble_eq_true rfl⟩) (Nat.le_refl _) hκ hA hA2 hP hS (fun σ1 j h1 h2 => absurd h2 (Nat.not_lt.mpr h1)) (Nat.le_of_ble_eq_true rfl) (Nat.le_of_ble_eq_true rfl) (fun σ2 H locs hf hP hS => ?_)
  refine lv_aload_n hx hb dX3_step_9 rfl (lv_at hl 0 rfl) ?_
  refine lv_iload_n hx hb dX3_step_10 rfl (lv_at hl 3 rfl) ?_
  refine t_callv (F := fun q => (xC cI cII κ q)) hf hlk htab (fun Rq σq h => vx_runV (As := [.int p3]) (rest := []) S (met_X3_needState l hst D cI cII κ hκ σ2 p3 _ Rq σq h) (cwV 1 S.2.2.2.2 gX3_step_X3_needState rfl rfl rfl (by decide +kernel) ⟨Nat.le_of_ble_eq_true rfl, Nat.le_of_ble_eq_true rfl⟩) (t_preV (N := 3) (T := TX3) hK hX hZ hP hS (Nat.le_refl _) hA hA2 (by decide) rfl rfl) rfl rfl hl.1 rfl (lv_room (Nat.le_of_ble_eq_true rfl)) dX3_step_11 ⟨Nat.le_of_ble_eq_true rfl, Nat.le_of_ble_eq_true rfl⟩) (Nat.le_refl _) hκ hA hA2 hP hS (fun σ1 j h1 h2 => absurd h2 (Nat.not_lt.mpr h1)) (Nat.le_of_ble_eq_true rfl) (Nat.le_of_ble_eq_true rfl) (fun σ3 H locs hf hP hS => ?_)
  refine lv_aload_n hx hb dX3_step_14 rfl (lv_at hl 0 rfl) ?_
  refine g_get (q := 0) (ci := 3) (k := 0) (ref := RX3) (C := RX3) (T := TX3) (N := 3) (index := 10) (v := .ref (κ 1)) S hK hP hiX3 (by decide) rfl rfl (by decide) rfl (by decide +kernel) rfl dX3_step_15 ?_
  refine lv_iload_n hx hb dX3_step_18 rfl (lv_at hl 1 rfl) ?_
  refine lv_iload_n hx hb dX3_step_19 rfl (lv_at hl 2 rfl) ?_
  obtain ⟨v4, hq20, hf⟩ := obw hf
  refine g_calli (va_runV (As := [.int p1, .int p2]) (rest := []) S (met_X2_end l D cI cII κ hκ σ3 p1 p2 v4 hq20) (cwV 2 S.2.2.2.2 gX3_step_X2_end rfl rfl rfl (by decide +kernel) ⟨Nat.le_of_ble_eq_true rfl, Nat.le_of_ble_eq_true rfl⟩) (g_preV (N := 5) (T := TX2) hK hP (Nat.le_refl _) (by decide) rfl rfl) rfl rfl hl.1 rfl (lv_room (Nat.le_of_ble_eq_true rfl)) dX3_step_20 ⟨Nat.le_of_ble_eq_true rfl, Nat.le_of_ble_eq_true rfl⟩) (Nat.le_refl _) hκ hA hP hS (fun j h1 h2 => absurd h2 (Nat.not_lt.mpr h1)) (fun H locs hP hS => ?_)
  obtain ⟨v5, ev5, hf⟩ := letb_w hf
  refine lv_nmi ev5 ?_
  refine lv_istore (lv' := [(4, .int v5), (0, .ref (κ 0)), (1, .int p1), (2, .int p2), (3, .int p3)]) hx hb dX3_step_23 hl (by decide) rfl (fun ls hl => ?_)
  refine lv_aload_n hx hb dX3_step_25 rfl (lv_at hl 1 rfl) ?_
  refine g_get (q := 0) (ci := 3) (k := 0) (ref := RX3) (C := RX3) (T := TX3) (N := 3) (index := 10) (v := .ref (κ 1)) S hK hP hiX3 (by decide) rfl rfl (by decide) rfl (by decide +kernel) rfl dX3_step_26 ?_
  refine lv_iload_n hx hb dX3_step_29 rfl (lv_at hl 2 rfl) ?_
  refine lv_iload_n hx hb dX3_step_30 rfl (lv_at hl 3 rfl) ?_
  refine lv_iload_n hx hb dX3_step_31 rfl (lv_at hl 4 rfl) ?_
  obtain ⟨σ6, hq32, hf⟩ := obw hf
  refine g_callv (va_runV (As := [.int p1, .int p2, .int p3]) (rest := []) S (met_X2_put l D cI cII κ hκ σ3 p1 p2 p3 σ6 hq32) (cwV 3 S.2.2.2.2 gX3_step_X2_put rfl rfl rfl (by decide +kernel) ⟨Nat.le_of_ble_eq_true rfl, Nat.le_of_ble_eq_true rfl⟩) (g_preV (N := 5) (T := TX2) hK hP (Nat.le_refl _) (by decide) rfl rfl) rfl rfl hl.1 rfl (lv_room (Nat.le_of_ble_eq_true rfl)) dX3_step_32 ⟨Nat.le_of_ble_eq_true rfl, Nat.le_of_ble_eq_true rfl⟩) (Nat.le_refl _) hκ hA hP hS (fun j h1 h2 => absurd h2 (Nat.not_lt.mpr h1)) (fun H locs hP hS => ?_)
  refine lv_aload_n hx hb dX3_step_35 rfl (lv_at hl 1 rfl) ?_
  obtain ⟨σ7, hq36, hf⟩ := obw hf
  refine g_callv (va_runV (As := []) (rest := []) S (met_X3_changed l D cI cII κ hκ σ6 σ7 hq36) (cwV 0 S.2.2.2.2 gX3_step_X3_changed rfl rfl rfl (by decide +kernel) ⟨Nat.le_of_ble_eq_true rfl, Nat.le_of_ble_eq_true rfl⟩) (g_preV (N := 3) (T := TX3) hK hP (Nat.le_refl _) (by decide) rfl rfl) rfl rfl hl.1 rfl (lv_room (Nat.le_of_ble_eq_true rfl)) dX3_step_36 ⟨Nat.le_of_ble_eq_true rfl, Nat.le_of_ble_eq_true rfl⟩) (Nat.le_refl _) hκ hA hP hS (fun j h1 h2 => absurd h2 (Nat.not_lt.mpr h1)) (fun H locs hP hS => ?_)
  refine lv_iload hx hb dX3_step_39 (lv_at hl 0 rfl) ?_
  obtain ⟨h8, h9⟩ := Prod.mk.inj (Option.some.inj hf)
  subst h9
  exact t_iret S hr hlk hP hS h8.symm (Nat.le_of_ble_eq_true rfl) (Nat.le_of_ble_eq_true rfl) dX3_step_41

set_option maxRecDepth 100000 in
set_option maxHeartbeats 4000000 in
theorem met_X3_unstep (l : Launch) (hst : l.stackTraces = false) (D : va_G) (cI cII : ClassId) (κ : Nat → Nat) (hκ : Inj 31 κ) (σ : SX) (p1 : Int32) (p2 : Int32) (sz : Nat) (R : Int32 ⊕ String) (σ' : SX) (hf : fn_X3_unstep σ p1 p2 = some (R, σ')) : vx_Met l yX3_unstep wsX3_unstep ({ frames := 7, cells := 2, slots := 12, locals := 103 } : Room) (va_Pc [.ref (κ 0), .int p1, .int p2] (tP D cI cII 31 κ (xC cI cII κ σ) sz)) (TQI D cI cII 31 κ (xC cI cII κ σ') R (tA 31 κ sz)) (TXC D 31 κ (xC cI cII κ σ') R (tA 31 κ sz)) 2 12 (tA 31 κ sz) := by
  refine t_enter (cc := cX3_unstep) (maxL := 4) (ret := (some .boolean)) (by decide) rfl (Nat.le_of_ble_eq_true rfl) ?_
  intro p e s m args below meth c ls S hr hlk htab hB hl
  have S : CallFix p m c cX3_unstep 4 s args wsX3_unstep RX3 := S
  obtain ⟨hsz, ⟨hP, hK⟩, hX, hZ⟩ := hB
  have hl : lv_has ls 4 [(0, .ref (κ 0)), (1, .int p1), (2, .int p2)] := hl
  have hS : va_S (tA 31 κ sz) s.heap s.heap [] := va_S.rf
  have hA : ∀ k, k < 31 → tA 31 κ sz (κ k) := tA_in
  have hA2 : ∀ q, s.heap.size ≤ q → tA 31 κ sz q := fun q h => Or.inr (hsz ▸ h)
  obtain ⟨hx, hb, hml, hown, hts⟩ := id S
  have hiX3 : ∀ w ∈ u_ws RX3 TX3 3, w ∈ wsX3_unstep := by decide +kernel
  unfold fn_X3_unstep at hf
  refine lv_aload_n hx hb dX3_unstep_0 rfl (lv_at hl 0 rfl) ?_
  refine lv_iload_n hx hb dX3_unstep_1 rfl (lv_at hl 1 rfl) ?_
  refine t_callv (F := fun q => (xC cI cII κ q)) hf hlk htab (fun Rq σq h => vx_runV (As := [.int p1]) (rest := []) S (met_X3_needState l hst D cI cII κ hκ σ p1 _ Rq σq h) (cwV 1 S.2.2.2.2 gX3_unstep_X3_needState rfl rfl rfl (by decide +kernel) ⟨Nat.le_of_ble_eq_true rfl, Nat.le_of_ble_eq_true rfl⟩) (t_preV (N := 3) (T := TX3) hK hX hZ hP hS (Nat.le_refl _) hA hA2 (by decide) rfl rfl) rfl rfl hl.1 rfl (lv_room (Nat.le_of_ble_eq_true rfl)) dX3_unstep_2 ⟨Nat.le_of_ble_eq_true rfl, Nat.le_of_ble_eq_true rfl⟩) (Nat.le_refl _) hκ hA hA2 hP hS (fun σ1 j h1 h2 => absurd h2 (Nat.not_lt.mpr h1)) (Nat.le_of_ble_eq_true rfl) (Nat.le_of_ble_eq_true rfl) (fun σ1 H locs hf hP hS => ?_)
  refine lv_iload_n hx hb dX3_unstep_5 rfl (lv_at hl 2 rfl) ?_
  refine t_callv (F := fun q => (xC cI cII κ q)) hf hlk htab (fun Rq σq h => vx_runS (As := [.int p2]) (rest := []) S (met_X3_needLabel l hst D cI cII κ hκ σ1 p2 _ Rq σq h) (va_cwS 1 S.2.2.2.2 gX3_unstep_X3_needLabel rfl rfl rfl (by decide +kernel) ⟨Nat.le_of_ble_eq_true rfl, Nat.le_of_ble_eq_true rfl⟩) (t_preS hK hX hZ hP hS (Nat.le_refl _) hA hA2) rfl rfl hl.1 rfl (lv_room (Nat.le_of_ble_eq_true rfl)) dX3_unstep_6 ⟨Nat.le_of_ble_eq_true rfl, Nat.le_of_ble_eq_true rfl⟩) (Nat.le_refl _) hκ hA hA2 hP hS (fun σ1 j h1 h2 => absurd h2 (Nat.not_lt.mpr h1)) (Nat.le_of_ble_eq_true rfl) (Nat.le_of_ble_eq_true rfl) (fun σ2 H locs hf hP hS => ?_)
  refine lv_aload_n hx hb dX3_unstep_9 rfl (lv_at hl 0 rfl) ?_
  refine g_get (q := 0) (ci := 3) (k := 0) (ref := RX3) (C := RX3) (T := TX3) (N := 3) (index := 10) (v := .ref (κ 1)) S hK hP hiX3 (by decide) rfl rfl (by decide) rfl (by decide +kernel) rfl dX3_unstep_10 ?_
  refine lv_iload_n hx hb dX3_unstep_13 rfl (lv_at hl 1 rfl) ?_
  refine lv_iload_n hx hb dX3_unstep_14 rfl (lv_at hl 2 rfl) ?_
  obtain ⟨v3, hq15, hf⟩ := obw hf
  refine g_calli (va_runV (As := [.int p1, .int p2]) (rest := []) S (met_X2_end l D cI cII κ hκ σ2 p1 p2 v3 hq15) (cwV 2 S.2.2.2.2 gX3_unstep_X2_end rfl rfl rfl (by decide +kernel) ⟨Nat.le_of_ble_eq_true rfl, Nat.le_of_ble_eq_true rfl⟩) (g_preV (N := 5) (T := TX2) hK hP (Nat.le_refl _) (by decide) rfl rfl) rfl rfl hl.1 rfl (lv_room (Nat.le_of_ble_eq_true rfl)) dX3_unstep_15 ⟨Nat.le_of_ble_eq_true rfl, Nat.le_of_ble_eq_true rfl⟩) (Nat.le_refl _) hκ hA hP hS (fun j h1 h2 => absurd h2 (Nat.not_lt.mpr h1)) (fun H locs hP hS => ?_)
  refine lv_iconst (v := -1) hx hb dX3_unstep_18 (by decide) ?_
  obtain ⟨K27, hK27, hf⟩ := letb_w hf
  have J27 : ∀ (z0_27 : Int32), K27 z0_27 = some (R, σ') → ∀ (H : Heap) (locs : List Loc) (ls : Array Slot), va_P D vwCl (gw 31 κ (xC cI cII κ σ2)) H → va_S (tA 31 κ sz) s.heap H locs → lv_has ls 4 [(0, .ref (κ 0)), (1, .int p1), (2, .int p2)] → W p l e ({ frames := 7, cells := 2, slots := 12, locals := 103 } : Room) s m args below meth c H locs ((0 + 1) + 1) ((0 + 6) + 6) (vx_MQ below (TQI D cI cII 31 κ (xC cI cII κ σ') R (tA 31 κ sz)) (TXC D 31 κ (xC cI cII κ σ') R (tA 31 κ sz)) args s 2 12 (tA 31 κ sz)) (F0 m 27 ls [.int z0_27]) := by
    intro z0_27 hf H locs ls hP hS hl
    rw [hK27] at hf
    obtain ⟨v4, ev4, hf⟩ := letb_w hf
    refine lv_nmi ev4 ?_
    refine lv_istore_n (lv' := [(3, .int v4), (0, .ref (κ 0)), (1, .int p1), (2, .int p2)]) hx hb dX3_unstep_27 rfl hl (by decide) rfl (fun ls hl => ?_)
    refine lv_iload_n hx hb dX3_unstep_28 rfl (lv_at hl 0 rfl) ?_
    obtain ⟨K42, hK42, hf⟩ := letb_w hf
    have J42 : ∀ (τ_42 : SX), K42 τ_42 = some (R, σ') → ∀ (H : Heap) (locs : List Loc) (ls : Array Slot), va_P D vwCl (gw 31 κ (xC cI cII κ τ_42)) H → va_S (tA 31 κ sz) s.heap H locs → lv_has ls 4 [(0, .ref (κ 0)), (3, .int v4)] → W p l e ({ frames := 7, cells := 2, slots := 12, locals := 103 } : Room) s m args below meth c H locs ((0 + 1) + 1) ((0 + 6) + 6) (vx_MQ below (TQI D cI cII 31 κ (xC cI cII κ σ') R (tA 31 κ sz)) (TXC D 31 κ (xC cI cII κ σ') R (tA 31 κ sz)) args s 2 12 (tA 31 κ sz)) (F0 m 42 ls []) := by
      intro τ_42 hf H locs ls hP hS hl
      rw [hK42] at hf
      refine lv_aload_n hx hb dX3_unstep_42 rfl (lv_at hl 0 rfl) ?_
      obtain ⟨σ5, hq43, hf⟩ := obw hf
      refine g_callv (va_runV (As := []) (rest := []) S (met_X3_changed l D cI cII κ hκ τ_42 σ5 hq43) (cwV 0 S.2.2.2.2 gX3_unstep_X3_changed rfl rfl rfl (by decide +kernel) ⟨Nat.le_of_ble_eq_true rfl, Nat.le_of_ble_eq_true rfl⟩) (g_preV (N := 3) (T := TX3) hK hP (Nat.le_refl _) (by decide) rfl rfl) rfl rfl hl.1 rfl (lv_room (Nat.le_of_ble_eq_true rfl)) dX3_unstep_43 ⟨Nat.le_of_ble_eq_true rfl, Nat.le_of_ble_eq_true rfl⟩) (Nat.le_refl _) hκ hA hP hS (fun j h1 h2 => absurd h2 (Nat.not_lt.mpr h1)) (fun H locs hP hS => ?_)
      refine lv_iload_n hx hb dX3_unstep_46 rfl (lv_at hl 1 rfl) ?_
      obtain ⟨w9, hw9, hf⟩ := obw hf
      obtain ⟨h8, h9⟩ := Prod.mk.inj (Option.some.inj hf)
      subst h9
      exact t_zret S hr hlk hP hS hw9 h8.symm (Nat.le_of_ble_eq_true rfl) (Nat.le_of_ble_eq_true rfl) dX3_unstep_47
    refine lv_if_eq (tgt := 42) hx hb dX3_unstep_29 (by decide) (fun c29 => ?_) (fun c29 => ?_)
    · have hf := iteT c29 hf
      exact J42 _ hf _ _ _ hP hS (lv_sub hl [1, 0] rfl)
    · have hf := iteF c29 hf
      refine lv_aload_n hx hb dX3_unstep_32 rfl (lv_at hl 1 rfl) ?_
      refine g_get (q := 0) (ci := 3) (k := 0) (ref := RX3) (C := RX3) (T := TX3) (N := 3) (index := 10) (v := .ref (κ 1)) S hK hP hiX3 (by decide) rfl rfl (by decide) rfl (by decide +kernel) rfl dX3_unstep_33 ?_
      refine lv_iload_n hx hb dX3_unstep_36 rfl (lv_at hl 2 rfl) ?_
      refine lv_iload_n hx hb dX3_unstep_37 rfl (lv_at hl 3 rfl) ?_
      refine lv_iconst (v := -1) hx hb dX3_unstep_38 (by decide) ?_
      obtain ⟨σ6, hq39, hf⟩ := obw hf
      refine g_callv (va_runV (As := [.int p1, .int p2, .int ((-1))]) (rest := []) S (met_X2_put l D cI cII κ hκ σ2 p1 p2 ((-1)) σ6 hq39) (cwV 3 S.2.2.2.2 gX3_unstep_X2_put rfl rfl rfl (by decide +kernel) ⟨Nat.le_of_ble_eq_true rfl, Nat.le_of_ble_eq_true rfl⟩) (g_preV (N := 5) (T := TX2) hK hP (Nat.le_refl _) (by decide) rfl rfl) rfl rfl hl.1 rfl (lv_room (Nat.le_of_ble_eq_true rfl)) dX3_unstep_39 ⟨Nat.le_of_ble_eq_true rfl, Nat.le_of_ble_eq_true rfl⟩) (Nat.le_refl _) hκ hA hP hS (fun j h1 h2 => absurd h2 (Nat.not_lt.mpr h1)) (fun H locs hP hS => ?_)
      exact J42 _ hf _ _ _ hP hS (lv_sub hl [1, 0] rfl)
  refine lv_icmp_eq (tgt := 26) hx hb dX3_unstep_19 (by decide) (fun c19 => ?_) (fun c19 => ?_)
  · have hf := iteT c19 hf
    refine lv_iconst (v := 0) hx hb dX3_unstep_26 (by decide) ?_
    exact J27 _ hf _ _ _ hP hS (lv_sub hl [0, 1, 2] rfl)
  · have hf := iteF c19 hf
    refine lv_iconst (v := 1) hx hb dX3_unstep_22 (by decide) ?_
    refine lv_goto (tgt := 27) hx hb dX3_unstep_23 (by decide) ?_
    exact J27 _ hf _ _ _ hP hS (lv_sub hl [0, 1, 2] rfl)

set_option maxRecDepth 100000 in
set_option maxHeartbeats 4000000 in
theorem met_X3_rename (l : Launch) (hst : l.stackTraces = false) (D : va_G) (cI cII : ClassId) (κ : Nat → Nat) (hκ : Inj 31 κ) (σ : SX) (p1 : Int32) (p2 : Int32) (sz : Nat) (R : Int32 ⊕ String) (σ' : SX) (hf : fn_X3_rename σ p1 p2 = some (R, σ')) : vx_Met l yX3_rename wsX3_rename ({ frames := 7, cells := 3, slots := 18, locals := 102 } : Room) (va_Pc [.ref (κ 0), .int p1, .int p2] (tP D cI cII 31 κ (xC cI cII κ σ) sz)) (TQI D cI cII 31 κ (xC cI cII κ σ') R (tA 31 κ sz)) (TXC D 31 κ (xC cI cII κ σ') R (tA 31 κ sz)) 3 18 (tA 31 κ sz) := by
  refine t_enter (cc := cX3_rename) (maxL := 4) (ret := (some .int)) (by decide) rfl (Nat.le_of_ble_eq_true rfl) ?_
  intro p e s m args below meth c ls S hr hlk htab hB hl
  have S : CallFix p m c cX3_rename 4 s args wsX3_rename RX3 := S
  obtain ⟨hsz, ⟨hP, hK⟩, hX, hZ⟩ := hB
  have hl : lv_has ls 4 [(0, .ref (κ 0)), (1, .int p1), (2, .int p2)] := hl
  have hS : va_S (tA 31 κ sz) s.heap s.heap [] := va_S.rf
  have hA : ∀ k, k < 31 → tA 31 κ sz (κ k) := tA_in
  have hA2 : ∀ q, s.heap.size ≤ q → tA 31 κ sz q := fun q h => Or.inr (hsz ▸ h)
  obtain ⟨hx, hb, hml, hown, hts⟩ := id S
  have hiX3 : ∀ w ∈ u_ws RX3 TX3 3, w ∈ wsX3_rename := by decide +kernel
  unfold fn_X3_rename at hf
  refine lv_iload_n hx hb dX3_rename_0 rfl (lv_at hl 1 rfl) ?_
  refine t_callv (F := fun q => (xC cI cII κ q)) hf hlk htab (fun Rq σq h => vx_runS (As := [.int p1]) (rest := []) S (met_X3_needLabel l hst D cI cII κ hκ σ p1 _ Rq σq h) (va_cwS 1 S.2.2.2.2 gX3_rename_X3_needLabel rfl rfl rfl (by decide +kernel) ⟨Nat.le_of_ble_eq_true rfl, Nat.le_of_ble_eq_true rfl⟩) (t_preS hK hX hZ hP hS (Nat.le_refl _) hA hA2) rfl rfl hl.1 rfl (lv_room (Nat.le_of_ble_eq_true rfl)) dX3_rename_1 ⟨Nat.le_of_ble_eq_true rfl, Nat.le_of_ble_eq_true rfl⟩) (Nat.le_refl _) hκ hA hA2 hP hS (fun σ1 j h1 h2 => absurd h2 (Nat.not_lt.mpr h1)) (Nat.le_of_ble_eq_true rfl) (Nat.le_of_ble_eq_true rfl) (fun σ1 H locs hf hP hS => ?_)
  refine lv_iload_n hx hb dX3_rename_4 rfl (lv_at hl 2 rfl) ?_
  refine t_callv (F := fun q => (xC cI cII κ q)) hf hlk htab (fun Rq σq h => vx_runS (As := [.int p2]) (rest := []) S (met_X3_needLabel l hst D cI cII κ hκ σ1 p2 _ Rq σq h) (va_cwS 1 S.2.2.2.2 gX3_rename_X3_needLabel rfl rfl rfl (by decide +kernel) ⟨Nat.le_of_ble_eq_true rfl, Nat.le_of_ble_eq_true rfl⟩) (t_preS hK hX hZ hP hS (Nat.le_refl _) hA hA2) rfl rfl hl.1 rfl (lv_room (Nat.le_of_ble_eq_true rfl)) dX3_rename_5 ⟨Nat.le_of_ble_eq_true rfl, Nat.le_of_ble_eq_true rfl⟩) (Nat.le_refl _) hκ hA hA2 hP hS (fun σ1 j h1 h2 => absurd h2 (Nat.not_lt.mpr h1)) (Nat.le_of_ble_eq_true rfl) (Nat.le_of_ble_eq_true rfl) (fun σ2 H locs hf hP hS => ?_)
  refine lv_aload_n hx hb dX3_rename_8 rfl (lv_at hl 0 rfl) ?_
  refine g_get (q := 0) (ci := 3) (k := 0) (ref := RX3) (C := RX3) (T := TX3) (N := 3) (index := 10) (v := .ref (κ 1)) S hK hP hiX3 (by decide) rfl rfl (by decide) rfl (by decide +kernel) rfl dX3_rename_9 ?_
  refine lv_iload_n hx hb dX3_rename_12 rfl (lv_at hl 1 rfl) ?_
  obtain ⟨v3, hq13, hf⟩ := obw hf
  refine g_calli (va_runV (As := [.int p1]) (rest := []) S (met_X2_beginning l D cI cII κ hκ σ2 p1 v3 hq13) (cwV 1 S.2.2.2.2 gX3_rename_X2_beginning rfl rfl rfl (by decide +kernel) ⟨Nat.le_of_ble_eq_true rfl, Nat.le_of_ble_eq_true rfl⟩) (g_preV (N := 5) (T := TX2) hK hP (Nat.le_refl _) (by decide) rfl rfl) rfl rfl hl.1 rfl (lv_room (Nat.le_of_ble_eq_true rfl)) dX3_rename_13 ⟨Nat.le_of_ble_eq_true rfl, Nat.le_of_ble_eq_true rfl⟩) (Nat.le_refl _) hκ hA hP hS (fun j h1 h2 => absurd h2 (Nat.not_lt.mpr h1)) (fun H locs hP hS => ?_)
  obtain ⟨v4, ev4, hf⟩ := letb_w hf
  refine lv_nmi ev4 ?_
  refine lv_istore_n (lv' := [(3, .int v4), (0, .ref (κ 0)), (1, .int p1), (2, .int p2)]) hx hb dX3_rename_16 rfl hl (by decide) rfl (fun ls hl => ?_)
  refine lv_iload_n hx hb dX3_rename_17 rfl (lv_at hl 2 rfl) ?_
  refine lv_iload_n hx hb dX3_rename_18 rfl (lv_at hl 3 rfl) ?_
  obtain ⟨K54, hK54, hf⟩ := letb_w hf
  have J54 : ∀ (τ_54 : SX), K54 τ_54 = some (R, σ') → ∀ (H : Heap) (locs : List Loc) (ls : Array Slot), va_P D vwCl (gw 31 κ (xC cI cII κ τ_54)) H → va_S (tA 31 κ sz) s.heap H locs → lv_has ls 4 [(0, .ref (κ 0)), (3, .int v4)] → W p l e ({ frames := 7, cells := 3, slots := 18, locals := 102 } : Room) s m args below meth c H locs ((0 + 1) + 1) ((0 + 6) + 6) (vx_MQ below (TQI D cI cII 31 κ (xC cI cII κ σ') R (tA 31 κ sz)) (TXC D 31 κ (xC cI cII κ σ') R (tA 31 κ sz)) args s 3 18 (tA 31 κ sz)) (F0 m 54 ls []) := by
    intro τ_54 hf H locs ls hP hS hl
    rw [hK54] at hf
    refine lv_aload_n hx hb dX3_rename_54 rfl (lv_at hl 0 rfl) ?_
    obtain ⟨σ5, hq55, hf⟩ := obw hf
    refine g_callv (va_runV (As := []) (rest := []) S (met_X3_changed l D cI cII κ hκ τ_54 σ5 hq55) (cwV 0 S.2.2.2.2 gX3_rename_X3_changed rfl rfl rfl (by decide +kernel) ⟨Nat.le_of_ble_eq_true rfl, Nat.le_of_ble_eq_true rfl⟩) (g_preV (N := 3) (T := TX3) hK hP (Nat.le_refl _) (by decide) rfl rfl) rfl rfl hl.1 rfl (lv_room (Nat.le_of_ble_eq_true rfl)) dX3_rename_55 ⟨Nat.le_of_ble_eq_true rfl, Nat.le_of_ble_eq_true rfl⟩) (Nat.le_refl _) hκ hA hP hS (fun j h1 h2 => absurd h2 (Nat.not_lt.mpr h1)) (fun H locs hP hS => ?_)
    refine lv_iload_n hx hb dX3_rename_58 rfl (lv_at hl 1 rfl) ?_
    obtain ⟨v6, hq59, hf⟩ := obw hf
    refine g_calli (va_runS (As := [.int v4]) (rest := []) S (met_J6_bitCount l D cI cII 31 κ (xC cI cII κ σ5) v4 v6 hq59) (va_cwS 1 S.2.2.2.2 gX3_rename_J6_bitCount_0f7a4 rfl rfl rfl (by decide +kernel) ⟨Nat.le_of_ble_eq_true rfl, Nat.le_of_ble_eq_true rfl⟩) (g_preS hK hP (Nat.le_refl _)) rfl rfl hl.1 rfl (lv_room (Nat.le_of_ble_eq_true rfl)) dX3_rename_59 ⟨Nat.le_of_ble_eq_true rfl, Nat.le_of_ble_eq_true rfl⟩) (Nat.le_refl _) hκ hA hP hS (fun j h1 h2 => absurd h2 (Nat.not_lt.mpr h1)) (fun H locs hP hS => ?_)
    obtain ⟨h8, h9⟩ := Prod.mk.inj (Option.some.inj hf)
    subst h9
    exact t_iret S hr hlk hP hS h8.symm (Nat.le_of_ble_eq_true rfl) (Nat.le_of_ble_eq_true rfl) dX3_rename_62
  refine lv_icmp_eq (tgt := 54) hx hb dX3_rename_19 (by decide) (fun c19 => ?_) (fun c19 => ?_)
  · have hf := iteT c19 hf
    exact J54 _ hf _ _ _ hP hS (lv_sub hl [1, 0] rfl)
  · have hf := iteF c19 hf
    refine lv_iload_n hx hb dX3_rename_22 rfl (lv_at hl 0 rfl) ?_
    refine lv_aload_n hx hb dX3_rename_23 rfl (lv_at hl 1 rfl) ?_
    refine g_get (q := 0) (ci := 3) (k := 0) (ref := RX3) (C := RX3) (T := TX3) (N := 3) (index := 10) (v := .ref (κ 1)) S hK hP hiX3 (by decide) rfl rfl (by decide) rfl (by decide +kernel) rfl dX3_rename_24 ?_
    refine lv_iload_n hx hb dX3_rename_27 rfl (lv_at hl 3 rfl) ?_
    obtain ⟨v7, hq28, hf⟩ := obw hf
    refine g_calli (va_runV (As := [.int p2]) (rest := [.int v4]) S (met_X2_beginning l D cI cII κ hκ σ2 p2 v7 hq28) (cwV 1 S.2.2.2.2 gX3_rename_X2_beginning rfl rfl rfl (by decide +kernel) ⟨Nat.le_of_ble_eq_true rfl, Nat.le_of_ble_eq_true rfl⟩) (g_preV (N := 5) (T := TX2) hK hP (Nat.le_refl _) (by decide) rfl rfl) rfl rfl hl.1 rfl (lv_room (Nat.le_of_ble_eq_true rfl)) dX3_rename_28 ⟨Nat.le_of_ble_eq_true rfl, Nat.le_of_ble_eq_true rfl⟩) (Nat.le_refl _) hκ hA hP hS (fun j h1 h2 => absurd h2 (Nat.not_lt.mpr h1)) (fun H locs hP hS => ?_)
    refine lv_iand hx hb dX3_rename_31 ?_
    refine lv_if_eq (tgt := 45) hx hb dX3_rename_32 (by decide) (fun c32 => ?_) (fun c32 => ?_)
    · have hf := iteT c32 hf
      refine lv_aload_n hx hb dX3_rename_45 rfl (lv_at hl 1 rfl) ?_
      refine g_get (q := 0) (ci := 3) (k := 0) (ref := RX3) (C := RX3) (T := TX3) (N := 3) (index := 10) (v := .ref (κ 1)) S hK hP hiX3 (by decide) rfl rfl (by decide) rfl (by decide +kernel) rfl dX3_rename_46 ?_
      refine lv_iload_n hx hb dX3_rename_49 rfl (lv_at hl 2 rfl) ?_
      refine lv_iload_n hx hb dX3_rename_50 rfl (lv_at hl 3 rfl) ?_
      obtain ⟨σ8, hq51, hf⟩ := obw hf
      refine g_callv (va_runV (As := [.int p1, .int p2]) (rest := []) S (met_X2_move l D cI cII κ hκ σ2 p1 p2 σ8 hq51) (cwV 2 S.2.2.2.2 gX3_rename_X2_move rfl rfl rfl (by decide +kernel) ⟨Nat.le_of_ble_eq_true rfl, Nat.le_of_ble_eq_true rfl⟩) (g_preV (N := 5) (T := TX2) hK hP (Nat.le_refl _) (by decide) rfl rfl) rfl rfl hl.1 rfl (lv_room (Nat.le_of_ble_eq_true rfl)) dX3_rename_51 ⟨Nat.le_of_ble_eq_true rfl, Nat.le_of_ble_eq_true rfl⟩) (Nat.le_refl _) hκ hA hP hS (fun j h1 h2 => absurd h2 (Nat.not_lt.mpr h1)) (fun H locs hP hS => ?_)
      exact J54 _ hf _ _ _ hP hS (lv_sub hl [1, 0] rfl)
    · have hf := iteF c32 hf
      obtain ⟨h8, h9⟩ := Prod.mk.inj (Option.some.inj hf)
      subst h9
      exact t_throw (cls := "java/lang/IllegalStateException") (text := "a state has steps with both labels") (ik := 38) (is := 67) (ic := 42) S hst hlk hP hS hZ htab hX.2.1 (by decide +kernel) (by decide +kernel) (by decide +kernel) (by decide +kernel) ng2 hX.2.2.2.2.2.2.2.2.2.2.1 hX.2.2.2.2.2.2.2.2.2.2.2.2 (by decide +kernel) hl.1 h8.symm dX3_rename_35 dX3_rename_38 dX3_rename_39 dX3_rename_41 dX3_rename_44 (Nat.le_of_ble_eq_true rfl) (Nat.le_of_ble_eq_true rfl) (Nat.le_of_ble_eq_true rfl) (Nat.le_of_ble_eq_true rfl) (Nat.le_of_ble_eq_true rfl) (Nat.le_of_ble_eq_true rfl)

set_option maxRecDepth 100000 in
set_option maxHeartbeats 4000000 in
theorem met_X3_target (l : Launch) (hst : l.stackTraces = false) (D : va_G) (cI cII : ClassId) (κ : Nat → Nat) (hκ : Inj 31 κ) (σ : SX) (p1 : Int32) (p2 : Int32) (sz : Nat) (R : Int32 ⊕ String) (σ' : SX) (hf : fn_X3_target σ p1 p2 = some (R, σ')) : vx_Met l yX3_target wsX3_target ({ frames := 7, cells := 2, slots := 12, locals := 103 } : Room) (va_Pc [.ref (κ 0), .int p1, .int p2] (tP D cI cII 31 κ (xC cI cII κ σ) sz)) (TQI D cI cII 31 κ (xC cI cII κ σ') R (tA 31 κ sz)) (TXC D 31 κ (xC cI cII κ σ') R (tA 31 κ sz)) 2 12 (tA 31 κ sz) := by
  refine t_enter (cc := cX3_target) (maxL := 3) (ret := (some .int)) (by decide) rfl (Nat.le_of_ble_eq_true rfl) ?_
  intro p e s m args below meth c ls S hr hlk htab hB hl
  have S : CallFix p m c cX3_target 3 s args wsX3_target RX3 := S
  obtain ⟨hsz, ⟨hP, hK⟩, hX, hZ⟩ := hB
  have hl : lv_has ls 3 [(0, .ref (κ 0)), (1, .int p1), (2, .int p2)] := hl
  have hS : va_S (tA 31 κ sz) s.heap s.heap [] := va_S.rf
  have hA : ∀ k, k < 31 → tA 31 κ sz (κ k) := tA_in
  have hA2 : ∀ q, s.heap.size ≤ q → tA 31 κ sz q := fun q h => Or.inr (hsz ▸ h)
  obtain ⟨hx, hb, hml, hown, hts⟩ := id S
  have hiX3 : ∀ w ∈ u_ws RX3 TX3 3, w ∈ wsX3_target := by decide +kernel
  unfold fn_X3_target at hf
  refine lv_aload_n hx hb dX3_target_0 rfl (lv_at hl 0 rfl) ?_
  refine lv_iload_n hx hb dX3_target_1 rfl (lv_at hl 1 rfl) ?_
  refine t_callv (F := fun q => (xC cI cII κ q)) hf hlk htab (fun Rq σq h => vx_runV (As := [.int p1]) (rest := []) S (met_X3_needState l hst D cI cII κ hκ σ p1 _ Rq σq h) (cwV 1 S.2.2.2.2 gX3_target_X3_needState rfl rfl rfl (by decide +kernel) ⟨Nat.le_of_ble_eq_true rfl, Nat.le_of_ble_eq_true rfl⟩) (t_preV (N := 3) (T := TX3) hK hX hZ hP hS (Nat.le_refl _) hA hA2 (by decide) rfl rfl) rfl rfl hl.1 rfl (lv_room (Nat.le_of_ble_eq_true rfl)) dX3_target_2 ⟨Nat.le_of_ble_eq_true rfl, Nat.le_of_ble_eq_true rfl⟩) (Nat.le_refl _) hκ hA hA2 hP hS (fun σ1 j h1 h2 => absurd h2 (Nat.not_lt.mpr h1)) (Nat.le_of_ble_eq_true rfl) (Nat.le_of_ble_eq_true rfl) (fun σ1 H locs hf hP hS => ?_)
  refine lv_iload_n hx hb dX3_target_5 rfl (lv_at hl 2 rfl) ?_
  refine t_callv (F := fun q => (xC cI cII κ q)) hf hlk htab (fun Rq σq h => vx_runS (As := [.int p2]) (rest := []) S (met_X3_needLabel l hst D cI cII κ hκ σ1 p2 _ Rq σq h) (va_cwS 1 S.2.2.2.2 gX3_target_X3_needLabel rfl rfl rfl (by decide +kernel) ⟨Nat.le_of_ble_eq_true rfl, Nat.le_of_ble_eq_true rfl⟩) (t_preS hK hX hZ hP hS (Nat.le_refl _) hA hA2) rfl rfl hl.1 rfl (lv_room (Nat.le_of_ble_eq_true rfl)) dX3_target_6 ⟨Nat.le_of_ble_eq_true rfl, Nat.le_of_ble_eq_true rfl⟩) (Nat.le_refl _) hκ hA hA2 hP hS (fun σ1 j h1 h2 => absurd h2 (Nat.not_lt.mpr h1)) (Nat.le_of_ble_eq_true rfl) (Nat.le_of_ble_eq_true rfl) (fun σ2 H locs hf hP hS => ?_)
  refine lv_aload_n hx hb dX3_target_9 rfl (lv_at hl 0 rfl) ?_
  refine g_get (q := 0) (ci := 3) (k := 0) (ref := RX3) (C := RX3) (T := TX3) (N := 3) (index := 10) (v := .ref (κ 1)) S hK hP hiX3 (by decide) rfl rfl (by decide) rfl (by decide +kernel) rfl dX3_target_10 ?_
  refine lv_iload_n hx hb dX3_target_13 rfl (lv_at hl 1 rfl) ?_
  refine lv_iload_n hx hb dX3_target_14 rfl (lv_at hl 2 rfl) ?_
  obtain ⟨v3, hq15, hf⟩ := obw hf
  refine g_calli (va_runV (As := [.int p1, .int p2]) (rest := []) S (met_X2_end l D cI cII κ hκ σ2 p1 p2 v3 hq15) (cwV 2 S.2.2.2.2 gX3_target_X2_end rfl rfl rfl (by decide +kernel) ⟨Nat.le_of_ble_eq_true rfl, Nat.le_of_ble_eq_true rfl⟩) (g_preV (N := 5) (T := TX2) hK hP (Nat.le_refl _) (by decide) rfl rfl) rfl rfl hl.1 rfl (lv_room (Nat.le_of_ble_eq_true rfl)) dX3_target_15 ⟨Nat.le_of_ble_eq_true rfl, Nat.le_of_ble_eq_true rfl⟩) (Nat.le_refl _) hκ hA hP hS (fun j h1 h2 => absurd h2 (Nat.not_lt.mpr h1)) (fun H locs hP hS => ?_)
  obtain ⟨h8, h9⟩ := Prod.mk.inj (Option.some.inj hf)
  subst h9
  exact t_iret S hr hlk hP hS h8.symm (Nat.le_of_ble_eq_true rfl) (Nat.le_of_ble_eq_true rfl) dX3_target_18

set_option maxRecDepth 100000 in
set_option maxHeartbeats 4000000 in
theorem met_X3_enabled (l : Launch) (hst : l.stackTraces = false) (D : va_G) (cI cII : ClassId) (κ : Nat → Nat) (hκ : Inj 31 κ) (σ : SX) (p1 : Int32) (sz : Nat) (R : Int32 ⊕ String) (σ' : SX) (hf : fn_X3_enabled σ p1 = some (R, σ')) : vx_Met l yX3_enabled wsX3_enabled ({ frames := 7, cells := 1, slots := 6, locals := 103 } : Room) (va_Pc [.ref (κ 0), .int p1] (tP D cI cII 31 κ (xC cI cII κ σ) sz)) (TQI D cI cII 31 κ (xC cI cII κ σ') R (tA 31 κ sz)) (TXC D 31 κ (xC cI cII κ σ') R (tA 31 κ sz)) 1 6 (tA 31 κ sz) := by
  refine t_enter (cc := cX3_enabled) (maxL := 4) (ret := (some .int)) (by decide) rfl (Nat.le_of_ble_eq_true rfl) ?_
  intro p e s m args below meth c ls S hr hlk htab hB hl
  have S : CallFix p m c cX3_enabled 4 s args wsX3_enabled RX3 := S
  obtain ⟨hsz, ⟨hP, hK⟩, hX, hZ⟩ := hB
  have hl : lv_has ls 4 [(0, .ref (κ 0)), (1, .int p1)] := hl
  have hS : va_S (tA 31 κ sz) s.heap s.heap [] := va_S.rf
  have hA : ∀ k, k < 31 → tA 31 κ sz (κ k) := tA_in
  have hA2 : ∀ q, s.heap.size ≤ q → tA 31 κ sz q := fun q h => Or.inr (hsz ▸ h)
  obtain ⟨hx, hb, hml, hown, hts⟩ := id S
  have hiX3 : ∀ w ∈ u_ws RX3 TX3 3, w ∈ wsX3_enabled := by decide +kernel
  unfold fn_X3_enabled at hf
  refine lv_aload_n hx hb dX3_enabled_0 rfl (lv_at hl 0 rfl) ?_
  refine lv_iload_n hx hb dX3_enabled_1 rfl (lv_at hl 1 rfl) ?_
  refine t_callv (F := fun q => (xC cI cII κ q)) hf hlk htab (fun Rq σq h => vx_runV (As := [.int p1]) (rest := []) S (met_X3_needState l hst D cI cII κ hκ σ p1 _ Rq σq h) (cwV 1 S.2.2.2.2 gX3_enabled_X3_needState rfl rfl rfl (by decide +kernel) ⟨Nat.le_of_ble_eq_true rfl, Nat.le_of_ble_eq_true rfl⟩) (t_preV (N := 3) (T := TX3) hK hX hZ hP hS (Nat.le_refl _) hA hA2 (by decide) rfl rfl) rfl rfl hl.1 rfl (lv_room (Nat.le_of_ble_eq_true rfl)) dX3_enabled_2 ⟨Nat.le_of_ble_eq_true rfl, Nat.le_of_ble_eq_true rfl⟩) (Nat.le_refl _) hκ hA hA2 hP hS (fun σ1 j h1 h2 => absurd h2 (Nat.not_lt.mpr h1)) (Nat.le_of_ble_eq_true rfl) (Nat.le_of_ble_eq_true rfl) (fun σ1 H locs hf hP hS => ?_)
  refine lv_iconst (v := 0) hx hb dX3_enabled_5 (by decide) ?_
  obtain ⟨v2, ev2, hf⟩ := letb_w hf
  refine lv_nmi ev2 ?_
  refine lv_istore_n (lv' := [(2, .int v2), (0, .ref (κ 0)), (1, .int p1)]) hx hb dX3_enabled_6 rfl hl (by decide) rfl (fun ls hl => ?_)
  refine lv_iconst (v := 0) hx hb dX3_enabled_7 (by decide) ?_
  obtain ⟨v3, ev3, hf⟩ := letb_w hf
  refine lv_nmi ev3 ?_
  refine lv_istore_n (lv' := [(3, .int v3), (2, .int v2), (0, .ref (κ 0)), (1, .int p1)]) hx hb dX3_enabled_8 rfl hl (by decide) rfl (fun ls hl => ?_)
  refine loopF_w (P := fun (g : Int32 → Int32 → Option ((Int32 ⊕ String) × SX)) => ∀ (x2_9 : Int32) (x3_9 : Int32), g x2_9 x3_9 = some (R, σ') → ∀ (H : Heap) (locs : List Loc) (ls : Array Slot), va_P D vwCl (gw 31 κ (xC cI cII κ σ1)) H → va_S (tA 31 κ sz) s.heap H locs → lv_has ls 4 [(0, .ref (κ 0)), (1, .int p1), (2, .int x2_9), (3, .int x3_9)] → W p l e ({ frames := 7, cells := 1, slots := 6, locals := 103 } : Room) s m args below meth c H locs (0 + 1) (0 + 6) (vx_MQ below (TQI D cI cII 31 κ (xC cI cII κ σ') R (tA 31 κ sz)) (TXC D 31 κ (xC cI cII κ σ') R (tA 31 κ sz)) args s 1 6 (tA 31 κ sz)) (F0 m 9 ls [])) (fun _ _ h => by simp at h) ?_ FU _ _ hf _ _ _ hP hS (lv_sub hl [2, 3, 1, 0] rfl)
  intro rec9 ih9 x2_9 x3_9 hf H locs ls hP hS hl
  unfold bd_X3_enabled_9 at hf
  refine lv_iload_n hx hb dX3_enabled_9 rfl (lv_at hl 3 rfl) ?_
  refine lv_bipush (v := 6) hx hb dX3_enabled_10 (by decide) ?_
  refine lv_icmp_ge (tgt := 40) hx hb dX3_enabled_12 (by decide) (fun c12 => ?_) (fun c12 => ?_)
  · have hf := iteT c12 hf
    refine lv_iload_n hx hb dX3_enabled_40 rfl (lv_at hl 2 rfl) ?_
    obtain ⟨h8, h9⟩ := Prod.mk.inj (Option.some.inj hf)
    subst h9
    exact t_iret S hr hlk hP hS h8.symm (Nat.le_of_ble_eq_true rfl) (Nat.le_of_ble_eq_true rfl) dX3_enabled_41
  · have hf := iteF c12 hf
    refine lv_aload_n hx hb dX3_enabled_15 rfl (lv_at hl 0 rfl) ?_
    refine g_get (q := 0) (ci := 3) (k := 0) (ref := RX3) (C := RX3) (T := TX3) (N := 3) (index := 10) (v := .ref (κ 1)) S hK hP hiX3 (by decide) rfl rfl (by decide) rfl (by decide +kernel) rfl dX3_enabled_16 ?_
    refine lv_iload_n hx hb dX3_enabled_19 rfl (lv_at hl 1 rfl) ?_
    refine lv_iload_n hx hb dX3_enabled_20 rfl (lv_at hl 3 rfl) ?_
    obtain ⟨v4, hq21, hf⟩ := obw hf
    refine g_calli (va_runV (As := [.int p1, .int x3_9]) (rest := []) S (met_X2_end l D cI cII κ hκ σ1 p1 x3_9 v4 hq21) (cwV 2 S.2.2.2.2 gX3_enabled_X2_end rfl rfl rfl (by decide +kernel) ⟨Nat.le_of_ble_eq_true rfl, Nat.le_of_ble_eq_true rfl⟩) (g_preV (N := 5) (T := TX2) hK hP (Nat.le_refl _) (by decide) rfl rfl) rfl rfl hl.1 rfl (lv_room (Nat.le_of_ble_eq_true rfl)) dX3_enabled_21 ⟨Nat.le_of_ble_eq_true rfl, Nat.le_of_ble_eq_true rfl⟩) (Nat.le_refl _) hκ hA hP hS (fun j h1 h2 => absurd h2 (Nat.not_lt.mpr h1)) (fun H locs hP hS => ?_)
    refine lv_iconst (v := -1) hx hb dX3_enabled_24 (by decide) ?_
    obtain ⟨K34, hK34, hf⟩ := letb_w hf
    have J34 : ∀ (y2_34 : Int32), K34 y2_34 = some (R, σ') → ∀ (H : Heap) (locs : List Loc) (ls : Array Slot), va_P D vwCl (gw 31 κ (xC cI cII κ σ1)) H → va_S (tA 31 κ sz) s.heap H locs → lv_has ls 4 [(0, .ref (κ 0)), (1, .int p1), (2, .int y2_34), (3, .int x3_9)] → W p l e ({ frames := 7, cells := 1, slots := 6, locals := 103 } : Room) s m args below meth c H locs (0 + 1) (0 + 6) (vx_MQ below (TQI D cI cII 31 κ (xC cI cII κ σ') R (tA 31 κ sz)) (TXC D 31 κ (xC cI cII κ σ') R (tA 31 κ sz)) args s 1 6 (tA 31 κ sz)) (F0 m 34 ls []) := by
      intro y2_34 hf H locs ls hP hS hl
      rw [hK34] at hf
      obtain ⟨v5, ev5, hf⟩ := letb_w hf
      refine lv_iinc (v := v5) (lv' := [(3, .int v5), (0, .ref (κ 0)), (1, .int p1), (2, .int y2_34)]) hx hb dX3_enabled_34 hl (k := 3) rfl (by rw [ev5]; rfl) (by decide) rfl (fun ls hl => ?_)
      refine lv_goto (tgt := 9) hx hb dX3_enabled_37 (by decide) ?_
      exact ih9 _ _ hf _ _ _ hP hS (lv_sub hl [1, 2, 3, 0] rfl)
    refine lv_icmp_eq (tgt := 34) hx hb dX3_enabled_25 (by decide) (fun c25 => ?_) (fun c25 => ?_)
    · have hf := iteT c25 hf
      exact J34 _ hf _ _ _ hP hS (lv_sub hl [0, 1, 2, 3] rfl)
    · have hf := iteF c25 hf
      refine lv_iload_n hx hb dX3_enabled_28 rfl (lv_at hl 2 rfl) ?_
      refine lv_iconst (v := 1) hx hb dX3_enabled_29 (by decide) ?_
      refine lv_iload_n hx hb dX3_enabled_30 rfl (lv_at hl 3 rfl) ?_
      refine lv_ishl hx hb dX3_enabled_31 ?_
      refine lv_ior hx hb dX3_enabled_32 ?_
      obtain ⟨v6, ev6, hf⟩ := letb_w hf
      refine lv_nmi ev6 ?_
      refine lv_istore_n (lv' := [(2, .int v6), (0, .ref (κ 0)), (1, .int p1), (3, .int x3_9)]) hx hb dX3_enabled_33 rfl hl (by decide) rfl (fun ls hl => ?_)
      exact J34 _ hf _ _ _ hP hS (lv_sub hl [1, 2, 0, 3] rfl)

set_option maxRecDepth 100000 in
set_option maxHeartbeats 4000000 in
theorem met_X3_distance (l : Launch) (hst : l.stackTraces = false) (D : va_G) (cI cII : ClassId) (κ : Nat → Nat) (hκ : Inj 31 κ) (σ : SX) (p1 : Int32) (sz : Nat) (R : Int32 ⊕ String) (σ' : SX) (hf : fn_X3_distance σ p1 = some (R, σ')) : vx_Met l yX3_distance wsX3_distance ({ frames := 7, cells := 1, slots := 6, locals := 103 } : Room) (va_Pc [.ref (κ 0), .int p1] (tP D cI cII 31 κ (xC cI cII κ σ) sz)) (TQI D cI cII 31 κ (xC cI cII κ σ') R (tA 31 κ sz)) (TXC D 31 κ (xC cI cII κ σ') R (tA 31 κ sz)) 1 6 (tA 31 κ sz) := by
  refine t_enter (cc := cX3_distance) (maxL := 2) (ret := (some .int)) (by decide) rfl (Nat.le_of_ble_eq_true rfl) ?_
  intro p e s m args below meth c ls S hr hlk htab hB hl
  have S : CallFix p m c cX3_distance 2 s args wsX3_distance RX3 := S
  obtain ⟨hsz, ⟨hP, hK⟩, hX, hZ⟩ := hB
  have hl : lv_has ls 2 [(0, .ref (κ 0)), (1, .int p1)] := hl
  have hS : va_S (tA 31 κ sz) s.heap s.heap [] := va_S.rf
  have hA : ∀ k, k < 31 → tA 31 κ sz (κ k) := tA_in
  have hA2 : ∀ q, s.heap.size ≤ q → tA 31 κ sz q := fun q h => Or.inr (hsz ▸ h)
  obtain ⟨hx, hb, hml, hown, hts⟩ := id S
  have hiX3 : ∀ w ∈ u_ws RX3 TX3 3, w ∈ wsX3_distance := by decide +kernel
  unfold fn_X3_distance at hf
  refine lv_aload_n hx hb dX3_distance_0 rfl (lv_at hl 0 rfl) ?_
  refine lv_iload_n hx hb dX3_distance_1 rfl (lv_at hl 1 rfl) ?_
  refine t_callv (F := fun q => (xC cI cII κ q)) hf hlk htab (fun Rq σq h => vx_runV (As := [.int p1]) (rest := []) S (met_X3_needState l hst D cI cII κ hκ σ p1 _ Rq σq h) (cwV 1 S.2.2.2.2 gX3_distance_X3_needState rfl rfl rfl (by decide +kernel) ⟨Nat.le_of_ble_eq_true rfl, Nat.le_of_ble_eq_true rfl⟩) (t_preV (N := 3) (T := TX3) hK hX hZ hP hS (Nat.le_refl _) hA hA2 (by decide) rfl rfl) rfl rfl hl.1 rfl (lv_room (Nat.le_of_ble_eq_true rfl)) dX3_distance_2 ⟨Nat.le_of_ble_eq_true rfl, Nat.le_of_ble_eq_true rfl⟩) (Nat.le_refl _) hκ hA hA2 hP hS (fun σ1 j h1 h2 => absurd h2 (Nat.not_lt.mpr h1)) (Nat.le_of_ble_eq_true rfl) (Nat.le_of_ble_eq_true rfl) (fun σ1 H locs hf hP hS => ?_)
  refine lv_aload_n hx hb dX3_distance_5 rfl (lv_at hl 0 rfl) ?_
  refine g_get (q := 0) (ci := 3) (k := 0) (ref := RX3) (C := RX3) (T := TX3) (N := 3) (index := 10) (v := .ref (κ 1)) S hK hP hiX3 (by decide) rfl rfl (by decide) rfl (by decide +kernel) rfl dX3_distance_6 ?_
  refine lv_iload_n hx hb dX3_distance_9 rfl (lv_at hl 1 rfl) ?_
  obtain ⟨v2, hq10, hf⟩ := obw hf
  refine g_calli (va_runV (As := [.int p1]) (rest := []) S (met_X2_distanceTo l D cI cII κ hκ σ1 p1 v2 hq10) (cwV 1 S.2.2.2.2 gX3_distance_X2_distanceTo rfl rfl rfl (by decide +kernel) ⟨Nat.le_of_ble_eq_true rfl, Nat.le_of_ble_eq_true rfl⟩) (g_preV (N := 5) (T := TX2) hK hP (Nat.le_refl _) (by decide) rfl rfl) rfl rfl hl.1 rfl (lv_room (Nat.le_of_ble_eq_true rfl)) dX3_distance_10 ⟨Nat.le_of_ble_eq_true rfl, Nat.le_of_ble_eq_true rfl⟩) (Nat.le_refl _) hκ hA hP hS (fun j h1 h2 => absurd h2 (Nat.not_lt.mpr h1)) (fun H locs hP hS => ?_)
  obtain ⟨h8, h9⟩ := Prod.mk.inj (Option.some.inj hf)
  subst h9
  exact t_iret S hr hlk hP hS h8.symm (Nat.le_of_ble_eq_true rfl) (Nat.le_of_ble_eq_true rfl) dX3_distance_13

set_option maxRecDepth 100000 in
set_option maxHeartbeats 4000000 in
theorem met_X3_crossing (l : Launch) (hst : l.stackTraces = false) (D : va_G) (cI cII : ClassId) (κ : Nat → Nat) (hκ : Inj 31 κ) (σ : SX) (p1 : Int32) (p2 : Int32) (sz : Nat) (R : Int32 ⊕ String) (σ' : SX) (hf : fn_X3_crossing σ p1 p2 = some (R, σ')) : vx_Met l yX3_crossing wsX3_crossing ({ frames := 7, cells := 2, slots := 12, locals := 103 } : Room) (va_Pc [.ref (κ 0), .int p1, .int p2] (tP D cI cII 31 κ (xC cI cII κ σ) sz)) (TQI D cI cII 31 κ (xC cI cII κ σ') R (tA 31 κ sz)) (TXC D 31 κ (xC cI cII κ σ') R (tA 31 κ sz)) 2 12 (tA 31 κ sz) := by
  refine t_enter (cc := cX3_crossing) (maxL := 3) (ret := (some .int)) (by decide) rfl (Nat.le_of_ble_eq_true rfl) ?_
  intro p e s m args below meth c ls S hr hlk htab hB hl
  have S : CallFix p m c cX3_crossing 3 s args wsX3_crossing RX3 := S
  obtain ⟨hsz, ⟨hP, hK⟩, hX, hZ⟩ := hB
  have hl : lv_has ls 3 [(0, .ref (κ 0)), (1, .int p1), (2, .int p2)] := hl
  have hS : va_S (tA 31 κ sz) s.heap s.heap [] := va_S.rf
  have hA : ∀ k, k < 31 → tA 31 κ sz (κ k) := tA_in
  have hA2 : ∀ q, s.heap.size ≤ q → tA 31 κ sz q := fun q h => Or.inr (hsz ▸ h)
  obtain ⟨hx, hb, hml, hown, hts⟩ := id S
  have hiX3 : ∀ w ∈ u_ws RX3 TX3 3, w ∈ wsX3_crossing := by decide +kernel
  unfold fn_X3_crossing at hf
  refine lv_aload_n hx hb dX3_crossing_0 rfl (lv_at hl 0 rfl) ?_
  refine lv_iload_n hx hb dX3_crossing_1 rfl (lv_at hl 1 rfl) ?_
  refine t_callv (F := fun q => (xC cI cII κ q)) hf hlk htab (fun Rq σq h => vx_runV (As := [.int p1]) (rest := []) S (met_X3_needSet l hst D cI cII κ hκ σ p1 _ Rq σq h) (cwV 1 S.2.2.2.2 gX3_crossing_X3_needSet rfl rfl rfl (by decide +kernel) ⟨Nat.le_of_ble_eq_true rfl, Nat.le_of_ble_eq_true rfl⟩) (t_preV (N := 3) (T := TX3) hK hX hZ hP hS (Nat.le_refl _) hA hA2 (by decide) rfl rfl) rfl rfl hl.1 rfl (lv_room (Nat.le_of_ble_eq_true rfl)) dX3_crossing_2 ⟨Nat.le_of_ble_eq_true rfl, Nat.le_of_ble_eq_true rfl⟩) (Nat.le_refl _) hκ hA hA2 hP hS (fun σ1 j h1 h2 => absurd h2 (Nat.not_lt.mpr h1)) (Nat.le_of_ble_eq_true rfl) (Nat.le_of_ble_eq_true rfl) (fun σ1 H locs hf hP hS => ?_)
  refine lv_iload_n hx hb dX3_crossing_5 rfl (lv_at hl 2 rfl) ?_
  refine t_callv (F := fun q => (xC cI cII κ q)) hf hlk htab (fun Rq σq h => vx_runS (As := [.int p2]) (rest := []) S (met_X3_needLabel l hst D cI cII κ hκ σ1 p2 _ Rq σq h) (va_cwS 1 S.2.2.2.2 gX3_crossing_X3_needLabel rfl rfl rfl (by decide +kernel) ⟨Nat.le_of_ble_eq_true rfl, Nat.le_of_ble_eq_true rfl⟩) (t_preS hK hX hZ hP hS (Nat.le_refl _) hA hA2) rfl rfl hl.1 rfl (lv_room (Nat.le_of_ble_eq_true rfl)) dX3_crossing_6 ⟨Nat.le_of_ble_eq_true rfl, Nat.le_of_ble_eq_true rfl⟩) (Nat.le_refl _) hκ hA hA2 hP hS (fun σ1 j h1 h2 => absurd h2 (Nat.not_lt.mpr h1)) (Nat.le_of_ble_eq_true rfl) (Nat.le_of_ble_eq_true rfl) (fun σ2 H locs hf hP hS => ?_)
  refine lv_aload_n hx hb dX3_crossing_9 rfl (lv_at hl 0 rfl) ?_
  refine g_get (q := 0) (ci := 3) (k := 0) (ref := RX3) (C := RX3) (T := TX3) (N := 3) (index := 10) (v := .ref (κ 1)) S hK hP hiX3 (by decide) rfl rfl (by decide) rfl (by decide +kernel) rfl dX3_crossing_10 ?_
  refine lv_iload_n hx hb dX3_crossing_13 rfl (lv_at hl 1 rfl) ?_
  refine lv_iload_n hx hb dX3_crossing_14 rfl (lv_at hl 2 rfl) ?_
  obtain ⟨v3, hq15, hf⟩ := obw hf
  refine g_calli (va_runV (As := [.int p1, .int p2]) (rest := []) S (met_X2_way l D cI cII κ hκ σ2 p1 p2 v3 hq15) (cwV 2 S.2.2.2.2 gX3_crossing_X2_way rfl rfl rfl (by decide +kernel) ⟨Nat.le_of_ble_eq_true rfl, Nat.le_of_ble_eq_true rfl⟩) (g_preV (N := 5) (T := TX2) hK hP (Nat.le_refl _) (by decide) rfl rfl) rfl rfl hl.1 rfl (lv_room (Nat.le_of_ble_eq_true rfl)) dX3_crossing_15 ⟨Nat.le_of_ble_eq_true rfl, Nat.le_of_ble_eq_true rfl⟩) (Nat.le_refl _) hκ hA hP hS (fun j h1 h2 => absurd h2 (Nat.not_lt.mpr h1)) (fun H locs hP hS => ?_)
  obtain ⟨h8, h9⟩ := Prod.mk.inj (Option.some.inj hf)
  subst h9
  exact t_iret S hr hlk hP hS h8.symm (Nat.le_of_ble_eq_true rfl) (Nat.le_of_ble_eq_true rfl) dX3_crossing_18

set_option maxRecDepth 100000 in
set_option maxHeartbeats 4000000 in
theorem met_X3_isRegion (l : Launch) (hst : l.stackTraces = false) (D : va_G) (cI cII : ClassId) (κ : Nat → Nat) (hκ : Inj 31 κ) (σ : SX) (p1 : Int32) (sz : Nat) (R : Int32 ⊕ String) (σ' : SX) (hf : fn_X3_isRegion σ p1 = some (R, σ')) : vx_Met l yX3_isRegion wsX3_isRegion ({ frames := 7, cells := 1, slots := 6, locals := 103 } : Room) (va_Pc [.ref (κ 0), .int p1] (tP D cI cII 31 κ (xC cI cII κ σ) sz)) (TQI D cI cII 31 κ (xC cI cII κ σ') R (tA 31 κ sz)) (TXC D 31 κ (xC cI cII κ σ') R (tA 31 κ sz)) 1 6 (tA 31 κ sz) := by
  refine t_enter (cc := cX3_isRegion) (maxL := 2) (ret := (some .boolean)) (by decide) rfl (Nat.le_of_ble_eq_true rfl) ?_
  intro p e s m args below meth c ls S hr hlk htab hB hl
  have S : CallFix p m c cX3_isRegion 2 s args wsX3_isRegion RX3 := S
  obtain ⟨hsz, ⟨hP, hK⟩, hX, hZ⟩ := hB
  have hl : lv_has ls 2 [(0, .ref (κ 0)), (1, .int p1)] := hl
  have hS : va_S (tA 31 κ sz) s.heap s.heap [] := va_S.rf
  have hA : ∀ k, k < 31 → tA 31 κ sz (κ k) := tA_in
  have hA2 : ∀ q, s.heap.size ≤ q → tA 31 κ sz q := fun q h => Or.inr (hsz ▸ h)
  obtain ⟨hx, hb, hml, hown, hts⟩ := id S
  have hiX3 : ∀ w ∈ u_ws RX3 TX3 3, w ∈ wsX3_isRegion := by decide +kernel
  unfold fn_X3_isRegion at hf
  refine lv_aload_n hx hb dX3_isRegion_0 rfl (lv_at hl 0 rfl) ?_
  refine lv_iload_n hx hb dX3_isRegion_1 rfl (lv_at hl 1 rfl) ?_
  refine t_callv (F := fun q => (xC cI cII κ q)) hf hlk htab (fun Rq σq h => vx_runV (As := [.int p1]) (rest := []) S (met_X3_needSet l hst D cI cII κ hκ σ p1 _ Rq σq h) (cwV 1 S.2.2.2.2 gX3_isRegion_X3_needSet rfl rfl rfl (by decide +kernel) ⟨Nat.le_of_ble_eq_true rfl, Nat.le_of_ble_eq_true rfl⟩) (t_preV (N := 3) (T := TX3) hK hX hZ hP hS (Nat.le_refl _) hA hA2 (by decide) rfl rfl) rfl rfl hl.1 rfl (lv_room (Nat.le_of_ble_eq_true rfl)) dX3_isRegion_2 ⟨Nat.le_of_ble_eq_true rfl, Nat.le_of_ble_eq_true rfl⟩) (Nat.le_refl _) hκ hA hA2 hP hS (fun σ1 j h1 h2 => absurd h2 (Nat.not_lt.mpr h1)) (Nat.le_of_ble_eq_true rfl) (Nat.le_of_ble_eq_true rfl) (fun σ1 H locs hf hP hS => ?_)
  refine lv_aload_n hx hb dX3_isRegion_5 rfl (lv_at hl 0 rfl) ?_
  refine g_get (q := 0) (ci := 3) (k := 1) (ref := RX3) (C := RX3) (T := TX3) (N := 3) (index := 21) (v := .ref (κ 2)) S hK hP hiX3 (by decide) rfl rfl (by decide) rfl (by decide +kernel) rfl dX3_isRegion_6 ?_
  refine lv_iload_n hx hb dX3_isRegion_9 rfl (lv_at hl 1 rfl) ?_
  obtain ⟨v2, hq10, hf⟩ := obw hf
  refine g_calli (va_runV (As := [.int p1]) (rest := []) S (met_X1_isOne l D cI cII κ hκ σ1 p1 v2 hq10) (cwV 1 S.2.2.2.2 gX3_isRegion_X1_isOne rfl rfl rfl (by decide +kernel) ⟨Nat.le_of_ble_eq_true rfl, Nat.le_of_ble_eq_true rfl⟩) (g_preV (N := 4) (T := TX1) hK hP (Nat.le_refl _) (by decide) rfl rfl) rfl rfl hl.1 rfl (lv_room (Nat.le_of_ble_eq_true rfl)) dX3_isRegion_10 ⟨Nat.le_of_ble_eq_true rfl, Nat.le_of_ble_eq_true rfl⟩) (Nat.le_refl _) hκ hA hP hS (fun j h1 h2 => absurd h2 (Nat.not_lt.mpr h1)) (fun H locs hP hS => ?_)
  obtain ⟨w9, hw9, hf⟩ := obw hf
  obtain ⟨h8, h9⟩ := Prod.mk.inj (Option.some.inj hf)
  subst h9
  exact t_zret S hr hlk hP hS hw9 h8.symm (Nat.le_of_ble_eq_true rfl) (Nat.le_of_ble_eq_true rfl) dX3_isRegion_13

set_option maxRecDepth 100000 in
set_option maxHeartbeats 4000000 in
theorem met_X3_region (l : Launch) (hst : l.stackTraces = false) (D : va_G) (cI cII : ClassId) (κ : Nat → Nat) (hκ : Inj 31 κ) (σ : SX) (p1 : Int32) (sz : Nat) (R : Int32 ⊕ String) (σ' : SX) (hf : fn_X3_region σ p1 = some (R, σ')) : vx_Met l yX3_region wsX3_region ({ frames := 7, cells := 1, slots := 6, locals := 110 } : Room) (va_Pc [.ref (κ 0), .int p1] (tP D cI cII 31 κ (xC cI cII κ σ) sz)) (TQI D cI cII 31 κ (xC cI cII κ σ') R (tA 31 κ sz)) (TXC D 31 κ (xC cI cII κ σ') R (tA 31 κ sz)) 1 6 (tA 31 κ sz) := by
  refine t_enter (cc := cX3_region) (maxL := 2) (ret := (some .int)) (by decide) rfl (Nat.le_of_ble_eq_true rfl) ?_
  intro p e s m args below meth c ls S hr hlk htab hB hl
  have S : CallFix p m c cX3_region 2 s args wsX3_region RX3 := S
  obtain ⟨hsz, ⟨hP, hK⟩, hX, hZ⟩ := hB
  have hl : lv_has ls 2 [(0, .ref (κ 0)), (1, .int p1)] := hl
  have hS : va_S (tA 31 κ sz) s.heap s.heap [] := va_S.rf
  have hA : ∀ k, k < 31 → tA 31 κ sz (κ k) := tA_in
  have hA2 : ∀ q, s.heap.size ≤ q → tA 31 κ sz q := fun q h => Or.inr (hsz ▸ h)
  obtain ⟨hx, hb, hml, hown, hts⟩ := id S
  have hiX3 : ∀ w ∈ u_ws RX3 TX3 3, w ∈ wsX3_region := by decide +kernel
  unfold fn_X3_region at hf
  refine lv_aload_n hx hb dX3_region_0 rfl (lv_at hl 0 rfl) ?_
  refine lv_iload_n hx hb dX3_region_1 rfl (lv_at hl 1 rfl) ?_
  refine t_callv (F := fun q => (xC cI cII κ q)) hf hlk htab (fun Rq σq h => vx_runV (As := [.int p1]) (rest := []) S (met_X3_needRegion l hst D cI cII κ hκ σ p1 _ Rq σq h) (cwV 1 S.2.2.2.2 gX3_region_X3_needRegion rfl rfl rfl (by decide +kernel) ⟨Nat.le_of_ble_eq_true rfl, Nat.le_of_ble_eq_true rfl⟩) (t_preV (N := 3) (T := TX3) hK hX hZ hP hS (Nat.le_refl _) hA hA2 (by decide) rfl rfl) rfl rfl hl.1 rfl (lv_room (Nat.le_of_ble_eq_true rfl)) dX3_region_2 ⟨Nat.le_of_ble_eq_true rfl, Nat.le_of_ble_eq_true rfl⟩) (Nat.le_refl _) hκ hA hA2 hP hS (fun σ1 j h1 h2 => absurd h2 (Nat.not_lt.mpr h1)) (Nat.le_of_ble_eq_true rfl) (Nat.le_of_ble_eq_true rfl) (fun σ1 H locs hf hP hS => ?_)
  refine lv_aload_n hx hb dX3_region_5 rfl (lv_at hl 0 rfl) ?_
  refine g_get (q := 0) (ci := 3) (k := 1) (ref := RX3) (C := RX3) (T := TX3) (N := 3) (index := 21) (v := .ref (κ 2)) S hK hP hiX3 (by decide) rfl rfl (by decide) rfl (by decide +kernel) rfl dX3_region_6 ?_
  refine lv_iload_n hx hb dX3_region_9 rfl (lv_at hl 1 rfl) ?_
  obtain ⟨v2, hq10, hf⟩ := obw hf
  refine g_calli (va_runV (As := [.int p1]) (rest := []) S (met_X1_at l D cI cII κ hκ σ1 p1 v2 hq10) (cwV 1 S.2.2.2.2 gX3_region_X1_at rfl rfl rfl (by decide +kernel) ⟨Nat.le_of_ble_eq_true rfl, Nat.le_of_ble_eq_true rfl⟩) (g_preV (N := 4) (T := TX1) hK hP (Nat.le_refl _) (by decide) rfl rfl) rfl rfl hl.1 rfl (lv_room (Nat.le_of_ble_eq_true rfl)) dX3_region_10 ⟨Nat.le_of_ble_eq_true rfl, Nat.le_of_ble_eq_true rfl⟩) (Nat.le_refl _) hκ hA hP hS (fun j h1 h2 => absurd h2 (Nat.not_lt.mpr h1)) (fun H locs hP hS => ?_)
  obtain ⟨h8, h9⟩ := Prod.mk.inj (Option.some.inj hf)
  subst h9
  exact t_iret S hr hlk hP hS h8.symm (Nat.le_of_ble_eq_true rfl) (Nat.le_of_ble_eq_true rfl) dX3_region_13

set_option maxRecDepth 100000 in
set_option maxHeartbeats 4000000 in
theorem met_X3_isLeast (l : Launch) (hst : l.stackTraces = false) (D : va_G) (cI cII : ClassId) (κ : Nat → Nat) (hκ : Inj 31 κ) (σ : SX) (p1 : Int32) (sz : Nat) (R : Int32 ⊕ String) (σ' : SX) (hf : fn_X3_isLeast σ p1 = some (R, σ')) : vx_Met l yX3_isLeast wsX3_isLeast ({ frames := 7, cells := 1, slots := 6, locals := 110 } : Room) (va_Pc [.ref (κ 0), .int p1] (tP D cI cII 31 κ (xC cI cII κ σ) sz)) (TQI D cI cII 31 κ (xC cI cII κ σ') R (tA 31 κ sz)) (TXC D 31 κ (xC cI cII κ σ') R (tA 31 κ sz)) 1 6 (tA 31 κ sz) := by
  refine t_enter (cc := cX3_isLeast) (maxL := 2) (ret := (some .boolean)) (by decide) rfl (Nat.le_of_ble_eq_true rfl) ?_
  intro p e s m args below meth c ls S hr hlk htab hB hl
  have S : CallFix p m c cX3_isLeast 2 s args wsX3_isLeast RX3 := S
  obtain ⟨hsz, ⟨hP, hK⟩, hX, hZ⟩ := hB
  have hl : lv_has ls 2 [(0, .ref (κ 0)), (1, .int p1)] := hl
  have hS : va_S (tA 31 κ sz) s.heap s.heap [] := va_S.rf
  have hA : ∀ k, k < 31 → tA 31 κ sz (κ k) := tA_in
  have hA2 : ∀ q, s.heap.size ≤ q → tA 31 κ sz q := fun q h => Or.inr (hsz ▸ h)
  obtain ⟨hx, hb, hml, hown, hts⟩ := id S
  have hiX3 : ∀ w ∈ u_ws RX3 TX3 3, w ∈ wsX3_isLeast := by decide +kernel
  unfold fn_X3_isLeast at hf
  refine lv_aload_n hx hb dX3_isLeast_0 rfl (lv_at hl 0 rfl) ?_
  refine lv_iload_n hx hb dX3_isLeast_1 rfl (lv_at hl 1 rfl) ?_
  refine t_callv (F := fun q => (xC cI cII κ q)) hf hlk htab (fun Rq σq h => vx_runV (As := [.int p1]) (rest := []) S (met_X3_needRegion l hst D cI cII κ hκ σ p1 _ Rq σq h) (cwV 1 S.2.2.2.2 gX3_isLeast_X3_needRegion rfl rfl rfl (by decide +kernel) ⟨Nat.le_of_ble_eq_true rfl, Nat.le_of_ble_eq_true rfl⟩) (t_preV (N := 3) (T := TX3) hK hX hZ hP hS (Nat.le_refl _) hA hA2 (by decide) rfl rfl) rfl rfl hl.1 rfl (lv_room (Nat.le_of_ble_eq_true rfl)) dX3_isLeast_2 ⟨Nat.le_of_ble_eq_true rfl, Nat.le_of_ble_eq_true rfl⟩) (Nat.le_refl _) hκ hA hA2 hP hS (fun σ1 j h1 h2 => absurd h2 (Nat.not_lt.mpr h1)) (Nat.le_of_ble_eq_true rfl) (Nat.le_of_ble_eq_true rfl) (fun σ1 H locs hf hP hS => ?_)
  refine lv_aload_n hx hb dX3_isLeast_5 rfl (lv_at hl 0 rfl) ?_
  refine g_get (q := 0) (ci := 3) (k := 1) (ref := RX3) (C := RX3) (T := TX3) (N := 3) (index := 21) (v := .ref (κ 2)) S hK hP hiX3 (by decide) rfl rfl (by decide) rfl (by decide +kernel) rfl dX3_isLeast_6 ?_
  refine lv_iload_n hx hb dX3_isLeast_9 rfl (lv_at hl 1 rfl) ?_
  obtain ⟨v2, hq10, hf⟩ := obw hf
  refine g_calli (va_runV (As := [.int p1]) (rest := []) S (met_X1_hasNoPart l D cI cII κ hκ σ1 p1 v2 hq10) (cwV 1 S.2.2.2.2 gX3_isLeast_X1_hasNoPart rfl rfl rfl (by decide +kernel) ⟨Nat.le_of_ble_eq_true rfl, Nat.le_of_ble_eq_true rfl⟩) (g_preV (N := 4) (T := TX1) hK hP (Nat.le_refl _) (by decide) rfl rfl) rfl rfl hl.1 rfl (lv_room (Nat.le_of_ble_eq_true rfl)) dX3_isLeast_10 ⟨Nat.le_of_ble_eq_true rfl, Nat.le_of_ble_eq_true rfl⟩) (Nat.le_refl _) hκ hA hP hS (fun j h1 h2 => absurd h2 (Nat.not_lt.mpr h1)) (fun H locs hP hS => ?_)
  obtain ⟨w9, hw9, hf⟩ := obw hf
  obtain ⟨h8, h9⟩ := Prod.mk.inj (Option.some.inj hf)
  subst h9
  exact t_zret S hr hlk hP hS hw9 h8.symm (Nat.le_of_ble_eq_true rfl) (Nat.le_of_ble_eq_true rfl) dX3_isLeast_13

set_option maxRecDepth 100000 in
set_option maxHeartbeats 4000000 in
theorem met_X3_grow (l : Launch) (hst : l.stackTraces = false) (D : va_G) (cI cII : ClassId) (κ : Nat → Nat) (hκ : Inj 31 κ) (σ : SX) (p1 : Int32) (sz : Nat) (R : Int32 ⊕ String) (σ' : SX) (hf : fn_X3_grow σ p1 = some (R, σ')) : vx_Met l yX3_grow wsX3_grow ({ frames := 7, cells := 1, slots := 6, locals := 103 } : Room) (va_Pc [.ref (κ 0), .int p1] (tP D cI cII 31 κ (xC cI cII κ σ) sz)) (TQI D cI cII 31 κ (xC cI cII κ σ') R (tA 31 κ sz)) (TXC D 31 κ (xC cI cII κ σ') R (tA 31 κ sz)) 1 6 (tA 31 κ sz) := by
  refine t_enter (cc := cX3_grow) (maxL := 2) (ret := (some .int)) (by decide) rfl (Nat.le_of_ble_eq_true rfl) ?_
  intro p e s m args below meth c ls S hr hlk htab hB hl
  have S : CallFix p m c cX3_grow 2 s args wsX3_grow RX3 := S
  obtain ⟨hsz, ⟨hP, hK⟩, hX, hZ⟩ := hB
  have hl : lv_has ls 2 [(0, .ref (κ 0)), (1, .int p1)] := hl
  have hS : va_S (tA 31 κ sz) s.heap s.heap [] := va_S.rf
  have hA : ∀ k, k < 31 → tA 31 κ sz (κ k) := tA_in
  have hA2 : ∀ q, s.heap.size ≤ q → tA 31 κ sz q := fun q h => Or.inr (hsz ▸ h)
  obtain ⟨hx, hb, hml, hown, hts⟩ := id S
  have hiX3 : ∀ w ∈ u_ws RX3 TX3 3, w ∈ wsX3_grow := by decide +kernel
  unfold fn_X3_grow at hf
  refine lv_aload_n hx hb dX3_grow_0 rfl (lv_at hl 0 rfl) ?_
  refine lv_iload_n hx hb dX3_grow_1 rfl (lv_at hl 1 rfl) ?_
  refine t_callv (F := fun q => (xC cI cII κ q)) hf hlk htab (fun Rq σq h => vx_runV (As := [.int p1]) (rest := []) S (met_X3_needSet l hst D cI cII κ hκ σ p1 _ Rq σq h) (cwV 1 S.2.2.2.2 gX3_grow_X3_needSet rfl rfl rfl (by decide +kernel) ⟨Nat.le_of_ble_eq_true rfl, Nat.le_of_ble_eq_true rfl⟩) (t_preV (N := 3) (T := TX3) hK hX hZ hP hS (Nat.le_refl _) hA hA2 (by decide) rfl rfl) rfl rfl hl.1 rfl (lv_room (Nat.le_of_ble_eq_true rfl)) dX3_grow_2 ⟨Nat.le_of_ble_eq_true rfl, Nat.le_of_ble_eq_true rfl⟩) (Nat.le_refl _) hκ hA hA2 hP hS (fun σ1 j h1 h2 => absurd h2 (Nat.not_lt.mpr h1)) (Nat.le_of_ble_eq_true rfl) (Nat.le_of_ble_eq_true rfl) (fun σ1 H locs hf hP hS => ?_)
  refine lv_aload_n hx hb dX3_grow_5 rfl (lv_at hl 0 rfl) ?_
  refine g_get (q := 0) (ci := 3) (k := 0) (ref := RX3) (C := RX3) (T := TX3) (N := 3) (index := 10) (v := .ref (κ 1)) S hK hP hiX3 (by decide) rfl rfl (by decide) rfl (by decide +kernel) rfl dX3_grow_6 ?_
  refine lv_iload_n hx hb dX3_grow_9 rfl (lv_at hl 1 rfl) ?_
  obtain ⟨v2, hq10, hf⟩ := obw hf
  refine g_calli (va_runV (As := [.int p1]) (rest := []) S (met_X2_grown l D cI cII κ hκ σ1 p1 v2 hq10) (cwV 1 S.2.2.2.2 gX3_grow_X2_grown rfl rfl rfl (by decide +kernel) ⟨Nat.le_of_ble_eq_true rfl, Nat.le_of_ble_eq_true rfl⟩) (g_preV (N := 5) (T := TX2) hK hP (Nat.le_refl _) (by decide) rfl rfl) rfl rfl hl.1 rfl (lv_room (Nat.le_of_ble_eq_true rfl)) dX3_grow_10 ⟨Nat.le_of_ble_eq_true rfl, Nat.le_of_ble_eq_true rfl⟩) (Nat.le_refl _) hκ hA hP hS (fun j h1 h2 => absurd h2 (Nat.not_lt.mpr h1)) (fun H locs hP hS => ?_)
  obtain ⟨h8, h9⟩ := Prod.mk.inj (Option.some.inj hf)
  subst h9
  exact t_iret S hr hlk hP hS h8.symm (Nat.le_of_ble_eq_true rfl) (Nat.le_of_ble_eq_true rfl) dX3_grow_13

set_option maxRecDepth 100000 in
set_option maxHeartbeats 4000000 in
theorem met_X3_apart (l : Launch) (hst : l.stackTraces = false) (D : va_G) (cI cII : ClassId) (κ : Nat → Nat) (hκ : Inj 31 κ) (σ : SX) (p1 : Int32) (p2 : Int32) (sz : Nat) (R : Int32 ⊕ String) (σ' : SX) (hf : fn_X3_apart σ p1 p2 = some (R, σ')) : vx_Met l yX3_apart wsX3_apart ({ frames := 7, cells := 2, slots := 12, locals := 113 } : Room) (va_Pc [.ref (κ 0), .int p1, .int p2] (tP D cI cII 31 κ (xC cI cII κ σ) sz)) (TQI D cI cII 31 κ (xC cI cII κ σ') R (tA 31 κ sz)) (TXC D 31 κ (xC cI cII κ σ') R (tA 31 κ sz)) 2 12 (tA 31 κ sz) := by
  refine t_enter (cc := cX3_apart) (maxL := 3) (ret := (some .int)) (by decide) rfl (Nat.le_of_ble_eq_true rfl) ?_
  intro p e s m args below meth c ls S hr hlk htab hB hl
  have S : CallFix p m c cX3_apart 3 s args wsX3_apart RX3 := S
  obtain ⟨hsz, ⟨hP, hK⟩, hX, hZ⟩ := hB
  have hl : lv_has ls 3 [(0, .ref (κ 0)), (1, .int p1), (2, .int p2)] := hl
  have hS : va_S (tA 31 κ sz) s.heap s.heap [] := va_S.rf
  have hA : ∀ k, k < 31 → tA 31 κ sz (κ k) := tA_in
  have hA2 : ∀ q, s.heap.size ≤ q → tA 31 κ sz q := fun q h => Or.inr (hsz ▸ h)
  obtain ⟨hx, hb, hml, hown, hts⟩ := id S
  have hiX3 : ∀ w ∈ u_ws RX3 TX3 3, w ∈ wsX3_apart := by decide +kernel
  unfold fn_X3_apart at hf
  refine lv_aload_n hx hb dX3_apart_0 rfl (lv_at hl 0 rfl) ?_
  refine lv_iload_n hx hb dX3_apart_1 rfl (lv_at hl 1 rfl) ?_
  refine t_callv (F := fun q => (xC cI cII κ q)) hf hlk htab (fun Rq σq h => vx_runV (As := [.int p1]) (rest := []) S (met_X3_needState l hst D cI cII κ hκ σ p1 _ Rq σq h) (cwV 1 S.2.2.2.2 gX3_apart_X3_needState rfl rfl rfl (by decide +kernel) ⟨Nat.le_of_ble_eq_true rfl, Nat.le_of_ble_eq_true rfl⟩) (t_preV (N := 3) (T := TX3) hK hX hZ hP hS (Nat.le_refl _) hA hA2 (by decide) rfl rfl) rfl rfl hl.1 rfl (lv_room (Nat.le_of_ble_eq_true rfl)) dX3_apart_2 ⟨Nat.le_of_ble_eq_true rfl, Nat.le_of_ble_eq_true rfl⟩) (Nat.le_refl _) hκ hA hA2 hP hS (fun σ1 j h1 h2 => absurd h2 (Nat.not_lt.mpr h1)) (Nat.le_of_ble_eq_true rfl) (Nat.le_of_ble_eq_true rfl) (fun σ1 H locs hf hP hS => ?_)
  refine lv_aload_n hx hb dX3_apart_5 rfl (lv_at hl 0 rfl) ?_
  refine lv_iload_n hx hb dX3_apart_6 rfl (lv_at hl 2 rfl) ?_
  refine t_callv (F := fun q => (xC cI cII κ q)) hf hlk htab (fun Rq σq h => vx_runV (As := [.int p2]) (rest := []) S (met_X3_needState l hst D cI cII κ hκ σ1 p2 _ Rq σq h) (cwV 1 S.2.2.2.2 gX3_apart_X3_needState rfl rfl rfl (by decide +kernel) ⟨Nat.le_of_ble_eq_true rfl, Nat.le_of_ble_eq_true rfl⟩) (t_preV (N := 3) (T := TX3) hK hX hZ hP hS (Nat.le_refl _) hA hA2 (by decide) rfl rfl) rfl rfl hl.1 rfl (lv_room (Nat.le_of_ble_eq_true rfl)) dX3_apart_7 ⟨Nat.le_of_ble_eq_true rfl, Nat.le_of_ble_eq_true rfl⟩) (Nat.le_refl _) hκ hA hA2 hP hS (fun σ1 j h1 h2 => absurd h2 (Nat.not_lt.mpr h1)) (Nat.le_of_ble_eq_true rfl) (Nat.le_of_ble_eq_true rfl) (fun σ2 H locs hf hP hS => ?_)
  refine lv_aload_n hx hb dX3_apart_10 rfl (lv_at hl 0 rfl) ?_
  refine g_get (q := 0) (ci := 3) (k := 1) (ref := RX3) (C := RX3) (T := TX3) (N := 3) (index := 21) (v := .ref (κ 2)) S hK hP hiX3 (by decide) rfl rfl (by decide) rfl (by decide +kernel) rfl dX3_apart_11 ?_
  refine lv_iload_n hx hb dX3_apart_14 rfl (lv_at hl 1 rfl) ?_
  refine lv_iload_n hx hb dX3_apart_15 rfl (lv_at hl 2 rfl) ?_
  obtain ⟨v4, σ3, hq16, hf⟩ := bind2_w hf
  refine g_calli (va_runV (As := [.int p1, .int p2]) (rest := []) S (met_X1_firstApart l D cI cII κ hκ σ2 p1 p2 v4 σ3 hq16) (cwV 2 S.2.2.2.2 gX3_apart_X1_firstApart rfl rfl rfl (by decide +kernel) ⟨Nat.le_of_ble_eq_true rfl, Nat.le_of_ble_eq_true rfl⟩) (g_preV (N := 4) (T := TX1) hK hP (Nat.le_refl _) (by decide) rfl rfl) rfl rfl hl.1 rfl (lv_room (Nat.le_of_ble_eq_true rfl)) dX3_apart_16 ⟨Nat.le_of_ble_eq_true rfl, Nat.le_of_ble_eq_true rfl⟩) (Nat.le_refl _) hκ hA hP hS (fun j h1 h2 => absurd h2 (Nat.not_lt.mpr h1)) (fun H locs hP hS => ?_)
  obtain ⟨h8, h9⟩ := Prod.mk.inj (Option.some.inj hf)
  subst h9
  exact t_iret S hr hlk hP hS h8.symm (Nat.le_of_ble_eq_true rfl) (Nat.le_of_ble_eq_true rfl) dX3_apart_19

set_option maxRecDepth 100000 in
set_option maxHeartbeats 4000000 in
theorem met_X3_preventer (l : Launch) (hst : l.stackTraces = false) (D : va_G) (cI cII : ClassId) (κ : Nat → Nat) (hκ : Inj 31 κ) (σ : SX) (p1 : Int32) (p2 : Int32) (sz : Nat) (R : Int32 ⊕ String) (σ' : SX) (hf : fn_X3_preventer σ p1 p2 = some (R, σ')) : vx_Met l yX3_preventer wsX3_preventer ({ frames := 7, cells := 2, slots := 12, locals := 113 } : Room) (va_Pc [.ref (κ 0), .int p1, .int p2] (tP D cI cII 31 κ (xC cI cII κ σ) sz)) (TQI D cI cII 31 κ (xC cI cII κ σ') R (tA 31 κ sz)) (TXC D 31 κ (xC cI cII κ σ') R (tA 31 κ sz)) 2 12 (tA 31 κ sz) := by
  refine t_enter (cc := cX3_preventer) (maxL := 3) (ret := (some .int)) (by decide) rfl (Nat.le_of_ble_eq_true rfl) ?_
  intro p e s m args below meth c ls S hr hlk htab hB hl
  have S : CallFix p m c cX3_preventer 3 s args wsX3_preventer RX3 := S
  obtain ⟨hsz, ⟨hP, hK⟩, hX, hZ⟩ := hB
  have hl : lv_has ls 3 [(0, .ref (κ 0)), (1, .int p1), (2, .int p2)] := hl
  have hS : va_S (tA 31 κ sz) s.heap s.heap [] := va_S.rf
  have hA : ∀ k, k < 31 → tA 31 κ sz (κ k) := tA_in
  have hA2 : ∀ q, s.heap.size ≤ q → tA 31 κ sz q := fun q h => Or.inr (hsz ▸ h)
  obtain ⟨hx, hb, hml, hown, hts⟩ := id S
  have hiX3 : ∀ w ∈ u_ws RX3 TX3 3, w ∈ wsX3_preventer := by decide +kernel
  unfold fn_X3_preventer at hf
  refine lv_aload_n hx hb dX3_preventer_0 rfl (lv_at hl 0 rfl) ?_
  refine lv_iload_n hx hb dX3_preventer_1 rfl (lv_at hl 1 rfl) ?_
  refine t_callv (F := fun q => (xC cI cII κ q)) hf hlk htab (fun Rq σq h => vx_runV (As := [.int p1]) (rest := []) S (met_X3_needState l hst D cI cII κ hκ σ p1 _ Rq σq h) (cwV 1 S.2.2.2.2 gX3_preventer_X3_needState rfl rfl rfl (by decide +kernel) ⟨Nat.le_of_ble_eq_true rfl, Nat.le_of_ble_eq_true rfl⟩) (t_preV (N := 3) (T := TX3) hK hX hZ hP hS (Nat.le_refl _) hA hA2 (by decide) rfl rfl) rfl rfl hl.1 rfl (lv_room (Nat.le_of_ble_eq_true rfl)) dX3_preventer_2 ⟨Nat.le_of_ble_eq_true rfl, Nat.le_of_ble_eq_true rfl⟩) (Nat.le_refl _) hκ hA hA2 hP hS (fun σ1 j h1 h2 => absurd h2 (Nat.not_lt.mpr h1)) (Nat.le_of_ble_eq_true rfl) (Nat.le_of_ble_eq_true rfl) (fun σ1 H locs hf hP hS => ?_)
  refine lv_iload_n hx hb dX3_preventer_5 rfl (lv_at hl 2 rfl) ?_
  refine t_callv (F := fun q => (xC cI cII κ q)) hf hlk htab (fun Rq σq h => vx_runS (As := [.int p2]) (rest := []) S (met_X3_needLabel l hst D cI cII κ hκ σ1 p2 _ Rq σq h) (va_cwS 1 S.2.2.2.2 gX3_preventer_X3_needLabel rfl rfl rfl (by decide +kernel) ⟨Nat.le_of_ble_eq_true rfl, Nat.le_of_ble_eq_true rfl⟩) (t_preS hK hX hZ hP hS (Nat.le_refl _) hA hA2) rfl rfl hl.1 rfl (lv_room (Nat.le_of_ble_eq_true rfl)) dX3_preventer_6 ⟨Nat.le_of_ble_eq_true rfl, Nat.le_of_ble_eq_true rfl⟩) (Nat.le_refl _) hκ hA hA2 hP hS (fun σ1 j h1 h2 => absurd h2 (Nat.not_lt.mpr h1)) (Nat.le_of_ble_eq_true rfl) (Nat.le_of_ble_eq_true rfl) (fun σ2 H locs hf hP hS => ?_)
  refine lv_aload_n hx hb dX3_preventer_9 rfl (lv_at hl 0 rfl) ?_
  refine g_get (q := 0) (ci := 3) (k := 0) (ref := RX3) (C := RX3) (T := TX3) (N := 3) (index := 10) (v := .ref (κ 1)) S hK hP hiX3 (by decide) rfl rfl (by decide) rfl (by decide +kernel) rfl dX3_preventer_10 ?_
  refine lv_iload_n hx hb dX3_preventer_13 rfl (lv_at hl 1 rfl) ?_
  refine lv_iload_n hx hb dX3_preventer_14 rfl (lv_at hl 2 rfl) ?_
  obtain ⟨v3, hq15, hf⟩ := obw hf
  refine g_calli (va_runV (As := [.int p1, .int p2]) (rest := []) S (met_X2_end l D cI cII κ hκ σ2 p1 p2 v3 hq15) (cwV 2 S.2.2.2.2 gX3_preventer_X2_end rfl rfl rfl (by decide +kernel) ⟨Nat.le_of_ble_eq_true rfl, Nat.le_of_ble_eq_true rfl⟩) (g_preV (N := 5) (T := TX2) hK hP (Nat.le_refl _) (by decide) rfl rfl) rfl rfl hl.1 rfl (lv_room (Nat.le_of_ble_eq_true rfl)) dX3_preventer_15 ⟨Nat.le_of_ble_eq_true rfl, Nat.le_of_ble_eq_true rfl⟩) (Nat.le_refl _) hκ hA hP hS (fun j h1 h2 => absurd h2 (Nat.not_lt.mpr h1)) (fun H locs hP hS => ?_)
  refine lv_iconst (v := -1) hx hb dX3_preventer_18 (by decide) ?_
  refine lv_icmp_eq (tgt := 25) hx hb dX3_preventer_19 (by decide) (fun c19 => ?_) (fun c19 => ?_)
  · have hf := iteT c19 hf
    refine lv_aload_n hx hb dX3_preventer_25 rfl (lv_at hl 0 rfl) ?_
    refine g_get (q := 0) (ci := 3) (k := 1) (ref := RX3) (C := RX3) (T := TX3) (N := 3) (index := 21) (v := .ref (κ 2)) S hK hP hiX3 (by decide) rfl rfl (by decide) rfl (by decide +kernel) rfl dX3_preventer_26 ?_
    refine lv_iload_n hx hb dX3_preventer_29 rfl (lv_at hl 1 rfl) ?_
    refine lv_iload_n hx hb dX3_preventer_30 rfl (lv_at hl 2 rfl) ?_
    obtain ⟨v5, σ4, hq31, hf⟩ := bind2_w hf
    refine g_calli (va_runV (As := [.int p1, .int p2]) (rest := []) S (met_X1_firstPreventing l D cI cII κ hκ σ2 p1 p2 v5 σ4 hq31) (cwV 2 S.2.2.2.2 gX3_preventer_X1_firstPreventing rfl rfl rfl (by decide +kernel) ⟨Nat.le_of_ble_eq_true rfl, Nat.le_of_ble_eq_true rfl⟩) (g_preV (N := 4) (T := TX1) hK hP (Nat.le_refl _) (by decide) rfl rfl) rfl rfl hl.1 rfl (lv_room (Nat.le_of_ble_eq_true rfl)) dX3_preventer_31 ⟨Nat.le_of_ble_eq_true rfl, Nat.le_of_ble_eq_true rfl⟩) (Nat.le_refl _) hκ hA hP hS (fun j h1 h2 => absurd h2 (Nat.not_lt.mpr h1)) (fun H locs hP hS => ?_)
    obtain ⟨h8, h9⟩ := Prod.mk.inj (Option.some.inj hf)
    subst h9
    exact t_iret S hr hlk hP hS h8.symm (Nat.le_of_ble_eq_true rfl) (Nat.le_of_ble_eq_true rfl) dX3_preventer_34
  · have hf := iteF c19 hf
    refine lv_bipush (v := -2) hx hb dX3_preventer_22 (by decide) ?_
    obtain ⟨h8, h9⟩ := Prod.mk.inj (Option.some.inj hf)
    subst h9
    exact t_iret S hr hlk hP hS h8.symm (Nat.le_of_ble_eq_true rfl) (Nat.le_of_ble_eq_true rfl) dX3_preventer_24

set_option maxRecDepth 100000 in
set_option maxHeartbeats 4000000 in
theorem met_X3_placeRegion (l : Launch) (hst : l.stackTraces = false) (D : va_G) (cI cII : ClassId) (κ : Nat → Nat) (hκ : Inj 31 κ) (σ : SX) (p1 : Int32) (sz : Nat) (R : Int32 ⊕ String) (σ' : SX) (hf : fn_X3_placeRegion σ p1 = some (R, σ')) : vx_Met l yX3_placeRegion wsX3_placeRegion ({ frames := 7, cells := 2, slots := 12, locals := 102 } : Room) (va_Pc [.ref (κ 0), .int p1] (tP D cI cII 31 κ (xC cI cII κ σ) sz)) (TQI D cI cII 31 κ (xC cI cII κ σ') R (tA 31 κ sz)) (TXC D 31 κ (xC cI cII κ σ') R (tA 31 κ sz)) 2 12 (tA 31 κ sz) := by
  refine t_enter (cc := cX3_placeRegion) (maxL := 2) (ret := (some .int)) (by decide) rfl (Nat.le_of_ble_eq_true rfl) ?_
  intro p e s m args below meth c ls S hr hlk htab hB hl
  have S : CallFix p m c cX3_placeRegion 2 s args wsX3_placeRegion RX3 := S
  obtain ⟨hsz, ⟨hP, hK⟩, hX, hZ⟩ := hB
  have hl : lv_has ls 2 [(0, .ref (κ 0)), (1, .int p1)] := hl
  have hS : va_S (tA 31 κ sz) s.heap s.heap [] := va_S.rf
  have hA : ∀ k, k < 31 → tA 31 κ sz (κ k) := tA_in
  have hA2 : ∀ q, s.heap.size ≤ q → tA 31 κ sz q := fun q h => Or.inr (hsz ▸ h)
  obtain ⟨hx, hb, hml, hown, hts⟩ := id S
  have hiX0 : ∀ w ∈ u_ws RX0 TX0 11, w ∈ wsX3_placeRegion := by decide +kernel
  have hiX3 : ∀ w ∈ u_ws RX3 TX3 3, w ∈ wsX3_placeRegion := by decide +kernel
  unfold fn_X3_placeRegion at hf
  refine lv_aload_n hx hb dX3_placeRegion_0 rfl (lv_at hl 0 rfl) ?_
  refine t_callv (F := fun q => (xC cI cII κ q)) hf hlk htab (fun Rq σq h => vx_runV (As := []) (rest := []) S (met_X3_needNet l hst D cI cII κ hκ σ _ Rq σq h) (cwV 0 S.2.2.2.2 gX3_placeRegion_X3_needNet rfl rfl rfl (by decide +kernel) ⟨Nat.le_of_ble_eq_true rfl, Nat.le_of_ble_eq_true rfl⟩) (t_preV (N := 3) (T := TX3) hK hX hZ hP hS (Nat.le_refl _) hA hA2 (by decide) rfl rfl) rfl rfl hl.1 rfl (lv_room (Nat.le_of_ble_eq_true rfl)) dX3_placeRegion_1 ⟨Nat.le_of_ble_eq_true rfl, Nat.le_of_ble_eq_true rfl⟩) (Nat.le_refl _) hκ hA hA2 hP hS (fun σ1 j h1 h2 => absurd h2 (Nat.not_lt.mpr h1)) (Nat.le_of_ble_eq_true rfl) (Nat.le_of_ble_eq_true rfl) (fun σ1 H locs hf hP hS => ?_)
  refine lv_iload_n hx hb dX3_placeRegion_4 rfl (lv_at hl 1 rfl) ?_
  obtain ⟨K19, hK19, hf⟩ := letb_w hf
  have J19 : ∀ (_u : Unit), K19 _u = some (R, σ') → ∀ (H : Heap) (locs : List Loc) (ls : Array Slot), va_P D vwCl (gw 31 κ (xC cI cII κ σ1)) H → va_S (tA 31 κ sz) s.heap H locs → lv_has ls 2 [] → W p l e ({ frames := 7, cells := 2, slots := 12, locals := 102 } : Room) s m args below meth c H locs (0 + 1) (0 + 6) (vx_MQ below (TQI D cI cII 31 κ (xC cI cII κ σ') R (tA 31 κ sz)) (TXC D 31 κ (xC cI cII κ σ') R (tA 31 κ sz)) args s 2 12 (tA 31 κ sz)) (F0 m 19 ls []) := by
    intro _u hf H locs ls hP hS hl
    rw [hK19] at hf
    obtain ⟨h8, h9⟩ := Prod.mk.inj (Option.some.inj hf)
    subst h9
    exact t_throw (cls := "java/lang/IndexOutOfBoundsException") (text := "no such place") (ik := 147) (is := 149) (ic := 151) S hst hlk hP hS hZ htab hX.2.2.1 (by decide +kernel) (by decide +kernel) (by decide +kernel) (by decide +kernel) ng1 hX.2.2.2.2.2.2.2.2.2.1 hX.2.2.2.2.2.2.2.2.2.2.2.2 (by decide +kernel) hl.1 h8.symm dX3_placeRegion_19 dX3_placeRegion_22 dX3_placeRegion_23 dX3_placeRegion_25 dX3_placeRegion_28 (Nat.le_of_ble_eq_true rfl) (Nat.le_of_ble_eq_true rfl) (Nat.le_of_ble_eq_true rfl) (Nat.le_of_ble_eq_true rfl) (Nat.le_of_ble_eq_true rfl) (Nat.le_of_ble_eq_true rfl)
  refine lv_if_lt (tgt := 19) hx hb dX3_placeRegion_5 (by decide) (fun c5 => ?_) (fun c5 => ?_)
  · have hf := iteT c5 hf
    exact J19 _ hf _ _ _ hP hS (lv_sub hl [] rfl)
  · have hf := iteF c5 hf
    refine lv_iload_n hx hb dX3_placeRegion_8 rfl (lv_at hl 1 rfl) ?_
    refine lv_aload_n hx hb dX3_placeRegion_9 rfl (lv_at hl 0 rfl) ?_
    refine g_get (q := 0) (ci := 3) (k := 2) (ref := RX3) (C := RX3) (T := TX3) (N := 3) (index := 30) (v := .ref (κ 3)) S hK hP hiX3 (by decide) rfl rfl (by decide) rfl (by decide +kernel) rfl dX3_placeRegion_10 ?_
    refine g_getN (q := 3) (ci := 0) (k := 3) (ref := RX0) (C := RX0) (T := TX0) (N := 11) (index := 141) (v := .int ((σ1.1 4))) S hK hP hiX0 (by decide) rfl rfl (by decide) rfl hK.2.2.2.2.2.2.1 rfl dX3_placeRegion_13 ?_
    refine lv_icmp_lt (tgt := 29) hx hb dX3_placeRegion_16 (by decide) (fun c16 => ?_) (fun c16 => ?_)
    · have hf := iteT c16 hf
      refine lv_aload_n hx hb dX3_placeRegion_29 rfl (lv_at hl 0 rfl) ?_
      refine g_get (q := 0) (ci := 3) (k := 2) (ref := RX3) (C := RX3) (T := TX3) (N := 3) (index := 30) (v := .ref (κ 3)) S hK hP hiX3 (by decide) rfl rfl (by decide) rfl (by decide +kernel) rfl dX3_placeRegion_30 ?_
      refine lv_iload_n hx hb dX3_placeRegion_33 rfl (lv_at hl 1 rfl) ?_
      obtain ⟨v2, hq34, hf⟩ := obw hf
      refine g_calli (va_runV (As := [.int p1]) (rest := []) S (met_X0_regionOf l D cI cII κ hκ σ1 p1 v2 hq34) (cwV 1 S.2.2.2.2 gX3_placeRegion_X0_regionOf rfl rfl rfl (by decide +kernel) ⟨Nat.le_of_ble_eq_true rfl, Nat.le_of_ble_eq_true rfl⟩) (g_preV (N := 11) (T := TX0) hK hP (Nat.le_refl _) (by decide) rfl rfl) rfl rfl hl.1 rfl (lv_room (Nat.le_of_ble_eq_true rfl)) dX3_placeRegion_34 ⟨Nat.le_of_ble_eq_true rfl, Nat.le_of_ble_eq_true rfl⟩) (Nat.le_refl _) hκ hA hP hS (fun j h1 h2 => absurd h2 (Nat.not_lt.mpr h1)) (fun H locs hP hS => ?_)
      obtain ⟨h8, h9⟩ := Prod.mk.inj (Option.some.inj hf)
      subst h9
      exact t_iret S hr hlk hP hS h8.symm (Nat.le_of_ble_eq_true rfl) (Nat.le_of_ble_eq_true rfl) dX3_placeRegion_37
    · have hf := iteF c16 hf
      exact J19 _ hf _ _ _ hP hS (lv_sub hl [] rfl)

set_option maxRecDepth 100000 in
set_option maxHeartbeats 4000000 in
theorem met_X3_consumed (l : Launch) (hst : l.stackTraces = false) (D : va_G) (cI cII : ClassId) (κ : Nat → Nat) (hκ : Inj 31 κ) (σ : SX) (p1 : Int32) (sz : Nat) (R : Int32 ⊕ String) (σ' : SX) (hf : fn_X3_consumed σ p1 = some (R, σ')) : vx_Met l yX3_consumed wsX3_consumed ({ frames := 7, cells := 2, slots := 12, locals := 102 } : Room) (va_Pc [.ref (κ 0), .int p1] (tP D cI cII 31 κ (xC cI cII κ σ) sz)) (TQI D cI cII 31 κ (xC cI cII κ σ') R (tA 31 κ sz)) (TXC D 31 κ (xC cI cII κ σ') R (tA 31 κ sz)) 2 12 (tA 31 κ sz) := by
  refine t_enter (cc := cX3_consumed) (maxL := 2) (ret := (some .int)) (by decide) rfl (Nat.le_of_ble_eq_true rfl) ?_
  intro p e s m args below meth c ls S hr hlk htab hB hl
  have S : CallFix p m c cX3_consumed 2 s args wsX3_consumed RX3 := S
  obtain ⟨hsz, ⟨hP, hK⟩, hX, hZ⟩ := hB
  have hl : lv_has ls 2 [(0, .ref (κ 0)), (1, .int p1)] := hl
  have hS : va_S (tA 31 κ sz) s.heap s.heap [] := va_S.rf
  have hA : ∀ k, k < 31 → tA 31 κ sz (κ k) := tA_in
  have hA2 : ∀ q, s.heap.size ≤ q → tA 31 κ sz q := fun q h => Or.inr (hsz ▸ h)
  obtain ⟨hx, hb, hml, hown, hts⟩ := id S
  have hiX3 : ∀ w ∈ u_ws RX3 TX3 3, w ∈ wsX3_consumed := by decide +kernel
  unfold fn_X3_consumed at hf
  refine lv_aload_n hx hb dX3_consumed_0 rfl (lv_at hl 0 rfl) ?_
  refine t_callv (F := fun q => (xC cI cII κ q)) hf hlk htab (fun Rq σq h => vx_runV (As := []) (rest := []) S (met_X3_needNet l hst D cI cII κ hκ σ _ Rq σq h) (cwV 0 S.2.2.2.2 gX3_consumed_X3_needNet rfl rfl rfl (by decide +kernel) ⟨Nat.le_of_ble_eq_true rfl, Nat.le_of_ble_eq_true rfl⟩) (t_preV (N := 3) (T := TX3) hK hX hZ hP hS (Nat.le_refl _) hA hA2 (by decide) rfl rfl) rfl rfl hl.1 rfl (lv_room (Nat.le_of_ble_eq_true rfl)) dX3_consumed_1 ⟨Nat.le_of_ble_eq_true rfl, Nat.le_of_ble_eq_true rfl⟩) (Nat.le_refl _) hκ hA hA2 hP hS (fun σ1 j h1 h2 => absurd h2 (Nat.not_lt.mpr h1)) (Nat.le_of_ble_eq_true rfl) (Nat.le_of_ble_eq_true rfl) (fun σ1 H locs hf hP hS => ?_)
  refine lv_iload_n hx hb dX3_consumed_4 rfl (lv_at hl 1 rfl) ?_
  refine t_callv (F := fun q => (xC cI cII κ q)) hf hlk htab (fun Rq σq h => vx_runS (As := [.int p1]) (rest := []) S (met_X3_needLabel l hst D cI cII κ hκ σ1 p1 _ Rq σq h) (va_cwS 1 S.2.2.2.2 gX3_consumed_X3_needLabel rfl rfl rfl (by decide +kernel) ⟨Nat.le_of_ble_eq_true rfl, Nat.le_of_ble_eq_true rfl⟩) (t_preS hK hX hZ hP hS (Nat.le_refl _) hA hA2) rfl rfl hl.1 rfl (lv_room (Nat.le_of_ble_eq_true rfl)) dX3_consumed_5 ⟨Nat.le_of_ble_eq_true rfl, Nat.le_of_ble_eq_true rfl⟩) (Nat.le_refl _) hκ hA hA2 hP hS (fun σ1 j h1 h2 => absurd h2 (Nat.not_lt.mpr h1)) (Nat.le_of_ble_eq_true rfl) (Nat.le_of_ble_eq_true rfl) (fun σ2 H locs hf hP hS => ?_)
  refine lv_aload_n hx hb dX3_consumed_8 rfl (lv_at hl 0 rfl) ?_
  refine g_get (q := 0) (ci := 3) (k := 2) (ref := RX3) (C := RX3) (T := TX3) (N := 3) (index := 30) (v := .ref (κ 3)) S hK hP hiX3 (by decide) rfl rfl (by decide) rfl (by decide +kernel) rfl dX3_consumed_9 ?_
  refine lv_iload_n hx hb dX3_consumed_12 rfl (lv_at hl 1 rfl) ?_
  obtain ⟨v3, hq13, hf⟩ := obw hf
  refine g_calli (va_runV (As := [.int p1]) (rest := []) S (met_X0_takenBy l D cI cII κ hκ σ2 p1 v3 hq13) (cwV 1 S.2.2.2.2 gX3_consumed_X0_takenBy rfl rfl rfl (by decide +kernel) ⟨Nat.le_of_ble_eq_true rfl, Nat.le_of_ble_eq_true rfl⟩) (g_preV (N := 11) (T := TX0) hK hP (Nat.le_refl _) (by decide) rfl rfl) rfl rfl hl.1 rfl (lv_room (Nat.le_of_ble_eq_true rfl)) dX3_consumed_13 ⟨Nat.le_of_ble_eq_true rfl, Nat.le_of_ble_eq_true rfl⟩) (Nat.le_refl _) hκ hA hP hS (fun j h1 h2 => absurd h2 (Nat.not_lt.mpr h1)) (fun H locs hP hS => ?_)
  obtain ⟨h8, h9⟩ := Prod.mk.inj (Option.some.inj hf)
  subst h9
  exact t_iret S hr hlk hP hS h8.symm (Nat.le_of_ble_eq_true rfl) (Nat.le_of_ble_eq_true rfl) dX3_consumed_16

set_option maxRecDepth 100000 in
set_option maxHeartbeats 4000000 in
theorem met_X3_produced (l : Launch) (hst : l.stackTraces = false) (D : va_G) (cI cII : ClassId) (κ : Nat → Nat) (hκ : Inj 31 κ) (σ : SX) (p1 : Int32) (sz : Nat) (R : Int32 ⊕ String) (σ' : SX) (hf : fn_X3_produced σ p1 = some (R, σ')) : vx_Met l yX3_produced wsX3_produced ({ frames := 7, cells := 2, slots := 12, locals := 102 } : Room) (va_Pc [.ref (κ 0), .int p1] (tP D cI cII 31 κ (xC cI cII κ σ) sz)) (TQI D cI cII 31 κ (xC cI cII κ σ') R (tA 31 κ sz)) (TXC D 31 κ (xC cI cII κ σ') R (tA 31 κ sz)) 2 12 (tA 31 κ sz) := by
  refine t_enter (cc := cX3_produced) (maxL := 2) (ret := (some .int)) (by decide) rfl (Nat.le_of_ble_eq_true rfl) ?_
  intro p e s m args below meth c ls S hr hlk htab hB hl
  have S : CallFix p m c cX3_produced 2 s args wsX3_produced RX3 := S
  obtain ⟨hsz, ⟨hP, hK⟩, hX, hZ⟩ := hB
  have hl : lv_has ls 2 [(0, .ref (κ 0)), (1, .int p1)] := hl
  have hS : va_S (tA 31 κ sz) s.heap s.heap [] := va_S.rf
  have hA : ∀ k, k < 31 → tA 31 κ sz (κ k) := tA_in
  have hA2 : ∀ q, s.heap.size ≤ q → tA 31 κ sz q := fun q h => Or.inr (hsz ▸ h)
  obtain ⟨hx, hb, hml, hown, hts⟩ := id S
  have hiX3 : ∀ w ∈ u_ws RX3 TX3 3, w ∈ wsX3_produced := by decide +kernel
  unfold fn_X3_produced at hf
  refine lv_aload_n hx hb dX3_produced_0 rfl (lv_at hl 0 rfl) ?_
  refine t_callv (F := fun q => (xC cI cII κ q)) hf hlk htab (fun Rq σq h => vx_runV (As := []) (rest := []) S (met_X3_needNet l hst D cI cII κ hκ σ _ Rq σq h) (cwV 0 S.2.2.2.2 gX3_produced_X3_needNet rfl rfl rfl (by decide +kernel) ⟨Nat.le_of_ble_eq_true rfl, Nat.le_of_ble_eq_true rfl⟩) (t_preV (N := 3) (T := TX3) hK hX hZ hP hS (Nat.le_refl _) hA hA2 (by decide) rfl rfl) rfl rfl hl.1 rfl (lv_room (Nat.le_of_ble_eq_true rfl)) dX3_produced_1 ⟨Nat.le_of_ble_eq_true rfl, Nat.le_of_ble_eq_true rfl⟩) (Nat.le_refl _) hκ hA hA2 hP hS (fun σ1 j h1 h2 => absurd h2 (Nat.not_lt.mpr h1)) (Nat.le_of_ble_eq_true rfl) (Nat.le_of_ble_eq_true rfl) (fun σ1 H locs hf hP hS => ?_)
  refine lv_iload_n hx hb dX3_produced_4 rfl (lv_at hl 1 rfl) ?_
  refine t_callv (F := fun q => (xC cI cII κ q)) hf hlk htab (fun Rq σq h => vx_runS (As := [.int p1]) (rest := []) S (met_X3_needLabel l hst D cI cII κ hκ σ1 p1 _ Rq σq h) (va_cwS 1 S.2.2.2.2 gX3_produced_X3_needLabel rfl rfl rfl (by decide +kernel) ⟨Nat.le_of_ble_eq_true rfl, Nat.le_of_ble_eq_true rfl⟩) (t_preS hK hX hZ hP hS (Nat.le_refl _) hA hA2) rfl rfl hl.1 rfl (lv_room (Nat.le_of_ble_eq_true rfl)) dX3_produced_5 ⟨Nat.le_of_ble_eq_true rfl, Nat.le_of_ble_eq_true rfl⟩) (Nat.le_refl _) hκ hA hA2 hP hS (fun σ1 j h1 h2 => absurd h2 (Nat.not_lt.mpr h1)) (Nat.le_of_ble_eq_true rfl) (Nat.le_of_ble_eq_true rfl) (fun σ2 H locs hf hP hS => ?_)
  refine lv_aload_n hx hb dX3_produced_8 rfl (lv_at hl 0 rfl) ?_
  refine g_get (q := 0) (ci := 3) (k := 2) (ref := RX3) (C := RX3) (T := TX3) (N := 3) (index := 30) (v := .ref (κ 3)) S hK hP hiX3 (by decide) rfl rfl (by decide) rfl (by decide +kernel) rfl dX3_produced_9 ?_
  refine lv_iload_n hx hb dX3_produced_12 rfl (lv_at hl 1 rfl) ?_
  obtain ⟨v3, hq13, hf⟩ := obw hf
  refine g_calli (va_runV (As := [.int p1]) (rest := []) S (met_X0_givenBy l D cI cII κ hκ σ2 p1 v3 hq13) (cwV 1 S.2.2.2.2 gX3_produced_X0_givenBy rfl rfl rfl (by decide +kernel) ⟨Nat.le_of_ble_eq_true rfl, Nat.le_of_ble_eq_true rfl⟩) (g_preV (N := 11) (T := TX0) hK hP (Nat.le_refl _) (by decide) rfl rfl) rfl rfl hl.1 rfl (lv_room (Nat.le_of_ble_eq_true rfl)) dX3_produced_13 ⟨Nat.le_of_ble_eq_true rfl, Nat.le_of_ble_eq_true rfl⟩) (Nat.le_refl _) hκ hA hP hS (fun j h1 h2 => absurd h2 (Nat.not_lt.mpr h1)) (fun H locs hP hS => ?_)
  obtain ⟨h8, h9⟩ := Prod.mk.inj (Option.some.inj hf)
  subst h9
  exact t_iret S hr hlk hP hS h8.symm (Nat.le_of_ble_eq_true rfl) (Nat.le_of_ble_eq_true rfl) dX3_produced_16

set_option maxRecDepth 100000 in
set_option maxHeartbeats 4000000 in
theorem met_X3_marking (l : Launch) (hst : l.stackTraces = false) (D : va_G) (cI cII : ClassId) (κ : Nat → Nat) (hκ : Inj 31 κ) (σ : SX)  (sz : Nat) (R : Int32 ⊕ String) (σ' : SX) (hf : fn_X3_marking σ  = some (R, σ')) : vx_Met l yX3_marking wsX3_marking ({ frames := 7, cells := 1, slots := 6, locals := 102 } : Room) (va_Pc [.ref (κ 0)] (tP D cI cII 31 κ (xC cI cII κ σ) sz)) (TQI D cI cII 31 κ (xC cI cII κ σ') R (tA 31 κ sz)) (TXC D 31 κ (xC cI cII κ σ') R (tA 31 κ sz)) 1 6 (tA 31 κ sz) := by
  refine t_enter (cc := cX3_marking) (maxL := 1) (ret := (some .int)) (by decide) rfl (Nat.le_of_ble_eq_true rfl) ?_
  intro p e s m args below meth c ls S hr hlk htab hB hl
  have S : CallFix p m c cX3_marking 1 s args wsX3_marking RX3 := S
  obtain ⟨hsz, ⟨hP, hK⟩, hX, hZ⟩ := hB
  have hl : lv_has ls 1 [(0, .ref (κ 0))] := hl
  have hS : va_S (tA 31 κ sz) s.heap s.heap [] := va_S.rf
  have hA : ∀ k, k < 31 → tA 31 κ sz (κ k) := tA_in
  have hA2 : ∀ q, s.heap.size ≤ q → tA 31 κ sz q := fun q h => Or.inr (hsz ▸ h)
  obtain ⟨hx, hb, hml, hown, hts⟩ := id S
  have hiX0 : ∀ w ∈ u_ws RX0 TX0 11, w ∈ wsX3_marking := by decide +kernel
  have hiX3 : ∀ w ∈ u_ws RX3 TX3 3, w ∈ wsX3_marking := by decide +kernel
  unfold fn_X3_marking at hf
  refine lv_aload_n hx hb dX3_marking_0 rfl (lv_at hl 0 rfl) ?_
  refine t_callv (F := fun q => (xC cI cII κ q)) hf hlk htab (fun Rq σq h => vx_runV (As := []) (rest := []) S (met_X3_needNet l hst D cI cII κ hκ σ _ Rq σq h) (cwV 0 S.2.2.2.2 gX3_marking_X3_needNet rfl rfl rfl (by decide +kernel) ⟨Nat.le_of_ble_eq_true rfl, Nat.le_of_ble_eq_true rfl⟩) (t_preV (N := 3) (T := TX3) hK hX hZ hP hS (Nat.le_refl _) hA hA2 (by decide) rfl rfl) rfl rfl hl.1 rfl (lv_room (Nat.le_of_ble_eq_true rfl)) dX3_marking_1 ⟨Nat.le_of_ble_eq_true rfl, Nat.le_of_ble_eq_true rfl⟩) (Nat.le_refl _) hκ hA hA2 hP hS (fun σ1 j h1 h2 => absurd h2 (Nat.not_lt.mpr h1)) (Nat.le_of_ble_eq_true rfl) (Nat.le_of_ble_eq_true rfl) (fun σ1 H locs hf hP hS => ?_)
  refine lv_aload_n hx hb dX3_marking_4 rfl (lv_at hl 0 rfl) ?_
  refine g_get (q := 0) (ci := 3) (k := 2) (ref := RX3) (C := RX3) (T := TX3) (N := 3) (index := 30) (v := .ref (κ 3)) S hK hP hiX3 (by decide) rfl rfl (by decide) rfl (by decide +kernel) rfl dX3_marking_5 ?_
  refine g_getN (q := 3) (ci := 0) (k := 8) (ref := RX0) (C := RX0) (T := TX0) (N := 11) (index := 138) (v := .int ((σ1.1 6))) S hK hP hiX0 (by decide) rfl rfl (by decide) rfl hK.2.2.2.2.2.2.2.2.1 rfl dX3_marking_8 ?_
  obtain ⟨h8, h9⟩ := Prod.mk.inj (Option.some.inj hf)
  subst h9
  exact t_iret S hr hlk hP hS h8.symm (Nat.le_of_ble_eq_true rfl) (Nat.le_of_ble_eq_true rfl) dX3_marking_11
