/-! by wip/whole/gen.py: walks: the machine computes the pure functions -/
set_option maxRecDepth 100000 in
set_option maxHeartbeats 4000000 in
theorem met_X4_thrown (l : Launch) (D : va_G) (cI cII : ClassId) (κ : Nat → Nat) (hκ : Inj 5 κ) (σ : SX)  (r : Int32) (hf : fn_X4_thrown σ  = some r) : Met l yX4_thrown wsX4_thrown ({ frames := 0, cells := 0, slots := 0, locals := 0 } : Room) (va_Pc [.ref (κ 0)] (mP D cI cII κ σ)) (QI D cI cII 5 κ (mC cI cII κ σ) r) 0 0 (gA 5 κ) := by
  refine g_enter (cc := cX4_thrown) (maxL := 1) (ret := (some .int)) (by decide) rfl (Nat.le_of_ble_eq_true rfl) ?_
  intro p e s m args below meth c ls S hr hlk _ hB hl
  have S : CallFix p m c cX4_thrown 1 s args wsX4_thrown RX4 := S
  obtain ⟨hP, hK⟩ := hB
  have hl : lv_has ls 1 [(0, .ref (κ 0))] := hl
  have hS : va_S (gA 5 κ) s.heap s.heap [] := va_S.rf
  have hA : ∀ k, k < 5 → gA 5 κ (κ k) := gA_in
  obtain ⟨hx, hb, hml, hown, hts⟩ := id S
  have hiX4 : ∀ w ∈ u_ws RX4 TX4 12, w ∈ wsX4_thrown := by decide +kernel
  unfold fn_X4_thrown at hf
  refine lv_aload_n hx hb dX4_thrown_0 rfl (lv_at hl 0 rfl) ?_
  refine g_get (q := 0) (ci := 4) (k := 0) (ref := RX4) (C := RX4) (T := TX4) (N := 12) (index := 26) (v := .int ((σ.1 0))) S hK hP hiX4 (by decide) rfl rfl (by decide) rfl (by decide +kernel) rfl dX4_thrown_1 ?_
  exact g_iret S hr hlk hK hP hS (Option.some.inj hf) dX4_thrown_4

set_option maxRecDepth 100000 in
set_option maxHeartbeats 4000000 in
theorem met_X4_fail (l : Launch) (D : va_G) (cI cII : ClassId) (κ : Nat → Nat) (hκ : Inj 5 κ) (σ : SX) (p1 : Int32) (r : Int32) (σ' : SX) (hf : fn_X4_fail σ p1 = some (r, σ')) : Met l yX4_fail wsX4_fail ({ frames := 0, cells := 0, slots := 0, locals := 0 } : Room) (va_Pc [.ref (κ 0), .int p1] (mP D cI cII κ σ)) (QI D cI cII 5 κ (mC cI cII κ σ') r) 0 0 (gA 5 κ) := by
  refine g_enter (cc := cX4_fail) (maxL := 2) (ret := (some .int)) (by decide) rfl (Nat.le_of_ble_eq_true rfl) ?_
  intro p e s m args below meth c ls S hr hlk _ hB hl
  have S : CallFix p m c cX4_fail 2 s args wsX4_fail RX4 := S
  obtain ⟨hP, hK⟩ := hB
  have hl : lv_has ls 2 [(0, .ref (κ 0)), (1, .int p1)] := hl
  have hS : va_S (gA 5 κ) s.heap s.heap [] := va_S.rf
  have hA : ∀ k, k < 5 → gA 5 κ (κ k) := gA_in
  obtain ⟨hx, hb, hml, hown, hts⟩ := id S
  have hiX4 : ∀ w ∈ u_ws RX4 TX4 12, w ∈ wsX4_fail := by decide +kernel
  unfold fn_X4_fail at hf
  refine lv_aload_n hx hb dX4_fail_0 rfl (lv_at hl 0 rfl) ?_
  refine lv_iload_n hx hb dX4_fail_1 rfl (lv_at hl 1 rfl) ?_
  obtain ⟨σ1, eσ1, hf⟩ := letb_w hf
  refine g_put (q := 0) (ci := 4) (k := 0) (ref := RX4) (C := RX4) (T := TX4) (N := 12) (index := 26) (ty := .int) (f' := (mC cI cII κ σ1)) S hK hP hκ hA hS hiX4 tyX4_ok nmX4 (by decide) rfl rfl (by decide) rfl (by decide +kernel) rfl (by decide +kernel) rfl rfl (Nat.le_of_ble_eq_true rfl) (fun j _ => by rw [eσ1]; exact mC_p0 j) dX4_fail_2 (fun H locs hP hS => ?_)
  refine lv_iconst (v := 0) hx hb dX4_fail_5 (by decide) ?_
  obtain ⟨h8, h9⟩ := Prod.mk.inj (Option.some.inj hf)
  subst h9
  exact g_iret S hr hlk hK hP hS h8 dX4_fail_6

set_option maxRecDepth 100000 in
set_option maxHeartbeats 4000000 in
theorem met_X4_isState (l : Launch) (D : va_G) (cI cII : ClassId) (κ : Nat → Nat) (hκ : Inj 5 κ) (σ : SX) (p1 : Int32) (r : Int32) (hf : fn_X4_isState σ p1 = some r) : Met l yX4_isState wsX4_isState ({ frames := 0, cells := 0, slots := 0, locals := 0 } : Room) (va_Pc [.ref (κ 0), .int p1] (mP D cI cII κ σ)) (QI D cI cII 5 κ (mC cI cII κ σ) r) 0 0 (gA 5 κ) := by
  refine g_enter (cc := cX4_isState) (maxL := 2) (ret := (some .boolean)) (by decide) rfl (Nat.le_of_ble_eq_true rfl) ?_
  intro p e s m args below meth c ls S hr hlk _ hB hl
  have S : CallFix p m c cX4_isState 2 s args wsX4_isState RX4 := S
  obtain ⟨hP, hK⟩ := hB
  have hl : lv_has ls 2 [(0, .ref (κ 0)), (1, .int p1)] := hl
  have hS : va_S (gA 5 κ) s.heap s.heap [] := va_S.rf
  have hA : ∀ k, k < 5 → gA 5 κ (κ k) := gA_in
  obtain ⟨hx, hb, hml, hown, hts⟩ := id S
  have hiX4 : ∀ w ∈ u_ws RX4 TX4 12, w ∈ wsX4_isState := by decide +kernel
  unfold fn_X4_isState at hf
  refine lv_iload_n hx hb dX4_isState_0 rfl (lv_at hl 1 rfl) ?_
  obtain ⟨K16, hK16, hf⟩ := letb_w hf
  have J16 : ∀ (_u : Unit), K16 _u = some r → ∀ (H : Heap) (locs : List Loc) (ls : Array Slot), va_P D vwCl (gw 5 κ (mC cI cII κ σ)) H → va_S (gA 5 κ) s.heap H locs → lv_has ls 2 [] → W p l e ({ frames := 0, cells := 0, slots := 0, locals := 0 } : Room) s m args below meth c H locs 0 0 (MQ below (QI D cI cII 5 κ (mC cI cII κ σ) r) args s 0 0 (gA 5 κ)) (F0 m 16 ls []) := by
    intro _u hf H locs ls hP hS hl
    rw [hK16] at hf
    refine lv_iconst (v := 0) hx hb dX4_isState_16 (by decide) ?_
    exact g_zret S hr hlk hK hP hS hf dX4_isState_17
  refine lv_if_lt (tgt := 16) hx hb dX4_isState_1 (by decide) (fun c1 => ?_) (fun c1 => ?_)
  · have hf := iteT c1 hf
    exact J16 _ hf _ _ _ hP hS (lv_sub hl [] rfl)
  · have hf := iteF c1 hf
    refine lv_iload_n hx hb dX4_isState_4 rfl (lv_at hl 1 rfl) ?_
    refine lv_aload_n hx hb dX4_isState_5 rfl (lv_at hl 0 rfl) ?_
    refine g_get (q := 0) (ci := 4) (k := 1) (ref := RX4) (C := RX4) (T := TX4) (N := 12) (index := 9) (v := .int ((σ.1 1))) S hK hP hiX4 (by decide) rfl rfl (by decide) rfl (by decide +kernel) rfl dX4_isState_6 ?_
    refine lv_icmp_ge (tgt := 16) hx hb dX4_isState_9 (by decide) (fun c9 => ?_) (fun c9 => ?_)
    · have hf := iteT c9 hf
      exact J16 _ hf _ _ _ hP hS (lv_sub hl [] rfl)
    · have hf := iteF c9 hf
      refine lv_iconst (v := 1) hx hb dX4_isState_12 (by decide) ?_
      refine lv_goto (tgt := 17) hx hb dX4_isState_13 (by decide) ?_
      exact g_zret S hr hlk hK hP hS hf dX4_isState_17

set_option maxRecDepth 100000 in
set_option maxHeartbeats 4000000 in
theorem met_X4_isLabel (l : Launch) (D : va_G) (cI cII : ClassId) (κ : Nat → Nat) (hκ : Inj 5 κ) (σ : SX) (p1 : Int32) (r : Int32) (hf : fn_X4_isLabel σ p1 = some r) : Met l yX4_isLabel wsX4_isLabel ({ frames := 0, cells := 0, slots := 0, locals := 0 } : Room) (va_Pc [.int p1] (mP D cI cII κ σ)) (QI D cI cII 5 κ (mC cI cII κ σ) r) 0 0 (gA 5 κ) := by
  refine g_enter (cc := cX4_isLabel) (maxL := 1) (ret := (some .boolean)) (by decide) rfl (Nat.le_of_ble_eq_true rfl) ?_
  intro p e s m args below meth c ls S hr hlk _ hB hl
  have S : CallFix p m c cX4_isLabel 1 s args wsX4_isLabel RX4 := S
  obtain ⟨hP, hK⟩ := hB
  have hl : lv_has ls 1 [(0, .int p1)] := hl
  have hS : va_S (gA 5 κ) s.heap s.heap [] := va_S.rf
  have hA : ∀ k, k < 5 → gA 5 κ (κ k) := gA_in
  obtain ⟨hx, hb, hml, hown, hts⟩ := id S
  unfold fn_X4_isLabel at hf
  refine lv_iload_n hx hb dX4_isLabel_0 rfl (lv_at hl 0 rfl) ?_
  obtain ⟨K14, hK14, hf⟩ := letb_w hf
  have J14 : ∀ (_u : Unit), K14 _u = some r → ∀ (H : Heap) (locs : List Loc) (ls : Array Slot), va_P D vwCl (gw 5 κ (mC cI cII κ σ)) H → va_S (gA 5 κ) s.heap H locs → lv_has ls 1 [] → W p l e ({ frames := 0, cells := 0, slots := 0, locals := 0 } : Room) s m args below meth c H locs 0 0 (MQ below (QI D cI cII 5 κ (mC cI cII κ σ) r) args s 0 0 (gA 5 κ)) (F0 m 14 ls []) := by
    intro _u hf H locs ls hP hS hl
    rw [hK14] at hf
    refine lv_iconst (v := 0) hx hb dX4_isLabel_14 (by decide) ?_
    exact g_zret S hr hlk hK hP hS hf dX4_isLabel_15
  refine lv_if_lt (tgt := 14) hx hb dX4_isLabel_1 (by decide) (fun c1 => ?_) (fun c1 => ?_)
  · have hf := iteT c1 hf
    exact J14 _ hf _ _ _ hP hS (lv_sub hl [] rfl)
  · have hf := iteF c1 hf
    refine lv_iload_n hx hb dX4_isLabel_4 rfl (lv_at hl 0 rfl) ?_
    refine lv_bipush (v := 6) hx hb dX4_isLabel_5 (by decide) ?_
    refine lv_icmp_ge (tgt := 14) hx hb dX4_isLabel_7 (by decide) (fun c7 => ?_) (fun c7 => ?_)
    · have hf := iteT c7 hf
      exact J14 _ hf _ _ _ hP hS (lv_sub hl [] rfl)
    · have hf := iteF c7 hf
      refine lv_iconst (v := 1) hx hb dX4_isLabel_10 (by decide) ?_
      refine lv_goto (tgt := 15) hx hb dX4_isLabel_11 (by decide) ?_
      exact g_zret S hr hlk hK hP hS hf dX4_isLabel_15

set_option maxRecDepth 100000 in
set_option maxHeartbeats 4000000 in
theorem met_X4_isSet (l : Launch) (D : va_G) (cI cII : ClassId) (κ : Nat → Nat) (hκ : Inj 5 κ) (σ : SX) (p1 : Int32) (r : Int32) (hf : fn_X4_isSet σ p1 = some r) : Met l yX4_isSet wsX4_isSet ({ frames := 0, cells := 0, slots := 0, locals := 0 } : Room) (va_Pc [.ref (κ 0), .int p1] (mP D cI cII κ σ)) (QI D cI cII 5 κ (mC cI cII κ σ) r) 0 0 (gA 5 κ) := by
  refine g_enter (cc := cX4_isSet) (maxL := 2) (ret := (some .boolean)) (by decide) rfl (Nat.le_of_ble_eq_true rfl) ?_
  intro p e s m args below meth c ls S hr hlk _ hB hl
  have S : CallFix p m c cX4_isSet 2 s args wsX4_isSet RX4 := S
  obtain ⟨hP, hK⟩ := hB
  have hl : lv_has ls 2 [(0, .ref (κ 0)), (1, .int p1)] := hl
  have hS : va_S (gA 5 κ) s.heap s.heap [] := va_S.rf
  have hA : ∀ k, k < 5 → gA 5 κ (κ k) := gA_in
  obtain ⟨hx, hb, hml, hown, hts⟩ := id S
  have hiX4 : ∀ w ∈ u_ws RX4 TX4 12, w ∈ wsX4_isSet := by decide +kernel
  unfold fn_X4_isSet at hf
  refine lv_iload_n hx hb dX4_isSet_0 rfl (lv_at hl 1 rfl) ?_
  obtain ⟨K18, hK18, hf⟩ := letb_w hf
  have J18 : ∀ (_u : Unit), K18 _u = some r → ∀ (H : Heap) (locs : List Loc) (ls : Array Slot), va_P D vwCl (gw 5 κ (mC cI cII κ σ)) H → va_S (gA 5 κ) s.heap H locs → lv_has ls 2 [] → W p l e ({ frames := 0, cells := 0, slots := 0, locals := 0 } : Room) s m args below meth c H locs 0 0 (MQ below (QI D cI cII 5 κ (mC cI cII κ σ) r) args s 0 0 (gA 5 κ)) (F0 m 18 ls []) := by
    intro _u hf H locs ls hP hS hl
    rw [hK18] at hf
    refine lv_iconst (v := 0) hx hb dX4_isSet_18 (by decide) ?_
    exact g_zret S hr hlk hK hP hS hf dX4_isSet_19
  refine lv_if_lt (tgt := 18) hx hb dX4_isSet_1 (by decide) (fun c1 => ?_) (fun c1 => ?_)
  · have hf := iteT c1 hf
    exact J18 _ hf _ _ _ hP hS (lv_sub hl [] rfl)
  · have hf := iteF c1 hf
    refine lv_iload_n hx hb dX4_isSet_4 rfl (lv_at hl 1 rfl) ?_
    refine lv_iconst (v := 1) hx hb dX4_isSet_5 (by decide) ?_
    refine lv_aload_n hx hb dX4_isSet_6 rfl (lv_at hl 0 rfl) ?_
    refine g_get (q := 0) (ci := 4) (k := 1) (ref := RX4) (C := RX4) (T := TX4) (N := 12) (index := 9) (v := .int ((σ.1 1))) S hK hP hiX4 (by decide) rfl rfl (by decide) rfl (by decide +kernel) rfl dX4_isSet_7 ?_
    refine lv_ishl hx hb dX4_isSet_10 ?_
    refine lv_icmp_ge (tgt := 18) hx hb dX4_isSet_11 (by decide) (fun c11 => ?_) (fun c11 => ?_)
    · have hf := iteT c11 hf
      exact J18 _ hf _ _ _ hP hS (lv_sub hl [] rfl)
    · have hf := iteF c11 hf
      refine lv_iconst (v := 1) hx hb dX4_isSet_14 (by decide) ?_
      refine lv_goto (tgt := 19) hx hb dX4_isSet_15 (by decide) ?_
      exact g_zret S hr hlk hK hP hS hf dX4_isSet_19

set_option maxRecDepth 100000 in
set_option maxHeartbeats 4000000 in
theorem met_X4_has (l : Launch) (D : va_G) (cI cII : ClassId) (κ : Nat → Nat) (hκ : Inj 5 κ) (σ : SX) (p1 : Int32) (p2 : Int32) (r : Int32) (hf : fn_X4_has σ p1 p2 = some r) : Met l yX4_has wsX4_has ({ frames := 0, cells := 0, slots := 0, locals := 0 } : Room) (va_Pc [.int p1, .int p2] (mP D cI cII κ σ)) (QI D cI cII 5 κ (mC cI cII κ σ) r) 0 0 (gA 5 κ) := by
  refine g_enter (cc := cX4_has) (maxL := 2) (ret := (some .boolean)) (by decide) rfl (Nat.le_of_ble_eq_true rfl) ?_
  intro p e s m args below meth c ls S hr hlk _ hB hl
  have S : CallFix p m c cX4_has 2 s args wsX4_has RX4 := S
  obtain ⟨hP, hK⟩ := hB
  have hl : lv_has ls 2 [(0, .int p1), (1, .int p2)] := hl
  have hS : va_S (gA 5 κ) s.heap s.heap [] := va_S.rf
  have hA : ∀ k, k < 5 → gA 5 κ (κ k) := gA_in
  obtain ⟨hx, hb, hml, hown, hts⟩ := id S
  unfold fn_X4_has at hf
  refine lv_iload_n hx hb dX4_has_0 rfl (lv_at hl 0 rfl) ?_
  refine lv_iload_n hx hb dX4_has_1 rfl (lv_at hl 1 rfl) ?_
  refine lv_ishr hx hb dX4_has_2 ?_
  refine lv_iconst (v := 1) hx hb dX4_has_3 (by decide) ?_
  refine lv_iand hx hb dX4_has_4 ?_
  refine lv_iconst (v := 1) hx hb dX4_has_5 (by decide) ?_
  refine lv_icmp_ne (tgt := 13) hx hb dX4_has_6 (by decide) (fun c6 => ?_) (fun c6 => ?_)
  · have hf := iteT c6 hf
    refine lv_iconst (v := 0) hx hb dX4_has_13 (by decide) ?_
    exact g_zret S hr hlk hK hP hS hf dX4_has_14
  · have hf := iteN c6 hf
    refine lv_iconst (v := 1) hx hb dX4_has_9 (by decide) ?_
    refine lv_goto (tgt := 14) hx hb dX4_has_10 (by decide) ?_
    exact g_zret S hr hlk hK hP hS hf dX4_has_14

set_option maxRecDepth 100000 in
set_option maxHeartbeats 4000000 in
theorem met_X4_to (l : Launch) (D : va_G) (cI cII : ClassId) (κ : Nat → Nat) (hκ : Inj 5 κ) (σ : SX) (p1 : Int32) (p2 : Int32) (r : Int32) (hf : fn_X4_to σ p1 p2 = some r) : Met l yX4_to wsX4_to ({ frames := 0, cells := 0, slots := 0, locals := 0 } : Room) (va_Pc [.ref (κ 0), .int p1, .int p2] (mP D cI cII κ σ)) (QI D cI cII 5 κ (mC cI cII κ σ) r) 0 0 (gA 5 κ) := by
  refine g_enter (cc := cX4_to) (maxL := 3) (ret := (some .int)) (by decide) rfl (Nat.le_of_ble_eq_true rfl) ?_
  intro p e s m args below meth c ls S hr hlk _ hB hl
  have S : CallFix p m c cX4_to 3 s args wsX4_to RX4 := S
  obtain ⟨hP, hK⟩ := hB
  have hl : lv_has ls 3 [(0, .ref (κ 0)), (1, .int p1), (2, .int p2)] := hl
  have hS : va_S (gA 5 κ) s.heap s.heap [] := va_S.rf
  have hA : ∀ k, k < 5 → gA 5 κ (κ k) := gA_in
  obtain ⟨hx, hb, hml, hown, hts⟩ := id S
  have hiX4 : ∀ w ∈ u_ws RX4 TX4 12, w ∈ wsX4_to := by decide +kernel
  unfold fn_X4_to at hf
  refine lv_aload_n hx hb dX4_to_0 rfl (lv_at hl 0 rfl) ?_
  refine g_get (q := 0) (ci := 4) (k := 2) (ref := RX4) (C := RX4) (T := TX4) (N := 12) (index := 13) (v := .ref (κ 1)) S hK hP hiX4 (by decide) rfl rfl (by decide) rfl (by decide +kernel) rfl dX4_to_1 ?_
  refine lv_bipush (v := 6) hx hb dX4_to_4 (by decide) ?_
  refine lv_iload_n hx hb dX4_to_6 rfl (lv_at hl 1 rfl) ?_
  refine lv_imul hx hb dX4_to_7 ?_
  refine lv_iload_n hx hb dX4_to_8 rfl (lv_at hl 2 rfl) ?_
  refine lv_iadd hx hb dX4_to_9 ?_
  obtain ⟨v1, hv1, hf⟩ := obw hf
  refine g_ald (a := 1) (len := 72) S hK hP (by decide) (mC_arr (by decide) rfl) hv1 dX4_to_10 ?_
  exact g_iret S hr hlk hK hP hS (Option.some.inj hf) dX4_to_11

set_option maxRecDepth 100000 in
set_option maxHeartbeats 4000000 in
theorem met_X4_change (l : Launch) (D : va_G) (cI cII : ClassId) (κ : Nat → Nat) (hκ : Inj 5 κ) (σ : SX)  (σ' : SX) (hf : fn_X4_change σ  = some σ') : Met l yX4_change wsX4_change ({ frames := 0, cells := 0, slots := 0, locals := 0 } : Room) (va_Pc [.ref (κ 0)] (mP D cI cII κ σ)) (QV D cI cII 5 κ (mC cI cII κ σ')) 0 0 (gA 5 κ) := by
  refine g_enter (cc := cX4_change) (maxL := 1) (ret := none) (by decide) rfl (Nat.le_of_ble_eq_true rfl) ?_
  intro p e s m args below meth c ls S hr hlk _ hB hl
  have S : CallFix p m c cX4_change 1 s args wsX4_change RX4 := S
  obtain ⟨hP, hK⟩ := hB
  have hl : lv_has ls 1 [(0, .ref (κ 0))] := hl
  have hS : va_S (gA 5 κ) s.heap s.heap [] := va_S.rf
  have hA : ∀ k, k < 5 → gA 5 κ (κ k) := gA_in
  obtain ⟨hx, hb, hml, hown, hts⟩ := id S
  have hiX4 : ∀ w ∈ u_ws RX4 TX4 12, w ∈ wsX4_change := by decide +kernel
  unfold fn_X4_change at hf
  refine lv_aload_n hx hb dX4_change_0 rfl (lv_at hl 0 rfl) ?_
  refine lv_iconst (v := 0) hx hb dX4_change_1 (by decide) ?_
  obtain ⟨σ1, eσ1, hf⟩ := letb_w hf
  refine g_put (q := 0) (ci := 4) (k := 3) (ref := RX4) (C := RX4) (T := TX4) (N := 12) (index := 29) (ty := .boolean) (f' := (mC cI cII κ σ1)) S hK hP hκ hA hS hiX4 tyX4_ok nmX4 (by decide) rfl rfl (by decide) rfl (by decide +kernel) rfl (by decide +kernel) rfl rfl (Nat.le_of_ble_eq_true rfl) (fun j _ => by rw [eσ1]; exact mC_p2 j) dX4_change_2 (fun H locs hP hS => ?_)
  refine lv_aload_n hx hb dX4_change_5 rfl (lv_at hl 0 rfl) ?_
  refine lv_iconst (v := 0) hx hb dX4_change_6 (by decide) ?_
  obtain ⟨σ2, eσ2, hf⟩ := letb_w hf
  refine g_put (q := 0) (ci := 4) (k := 6) (ref := RX4) (C := RX4) (T := TX4) (N := 12) (index := 33) (ty := .boolean) (f' := (mC cI cII κ σ2)) S hK hP hκ hA hS hiX4 tyX4_ok nmX4 (by decide) rfl rfl (by decide) rfl (by decide +kernel) rfl (by decide +kernel) rfl rfl (Nat.le_of_ble_eq_true rfl) (fun j _ => by rw [eσ2]; exact mC_p4 j) dX4_change_7 (fun H locs hP hS => ?_)
  obtain rfl := Option.some.inj hf
  exact g_vret S hr hlk hK hP hS dX4_change_10

set_option maxRecDepth 100000 in
set_option maxHeartbeats 4000000 in
theorem met_X4_addState (l : Launch) (D : va_G) (cI cII : ClassId) (κ : Nat → Nat) (hκ : Inj 5 κ) (σ : SX)  (r : Int32) (σ' : SX) (hf : fn_X4_addState σ  = some (r, σ')) : Met l yX4_addState wsX4_addState ({ frames := 1, cells := 0, slots := 0, locals := 21 } : Room) (va_Pc [.ref (κ 0)] (mP D cI cII κ σ)) (QI D cI cII 5 κ (mC cI cII κ σ') r) 0 0 (gA 5 κ) := by
  refine g_enter (cc := cX4_addState) (maxL := 1) (ret := (some .int)) (by decide) rfl (Nat.le_of_ble_eq_true rfl) ?_
  intro p e s m args below meth c ls S hr hlk _ hB hl
  have S : CallFix p m c cX4_addState 1 s args wsX4_addState RX4 := S
  obtain ⟨hP, hK⟩ := hB
  have hl : lv_has ls 1 [(0, .ref (κ 0))] := hl
  have hS : va_S (gA 5 κ) s.heap s.heap [] := va_S.rf
  have hA : ∀ k, k < 5 → gA 5 κ (κ k) := gA_in
  obtain ⟨hx, hb, hml, hown, hts⟩ := id S
  have hiX4 : ∀ w ∈ u_ws RX4 TX4 12, w ∈ wsX4_addState := by decide +kernel
  unfold fn_X4_addState at hf
  refine lv_aload_n hx hb dX4_addState_0 rfl (lv_at hl 0 rfl) ?_
  refine lv_iconst (v := 0) hx hb dX4_addState_1 (by decide) ?_
  obtain ⟨σ1, eσ1, hf⟩ := letb_w hf
  refine g_put (q := 0) (ci := 4) (k := 0) (ref := RX4) (C := RX4) (T := TX4) (N := 12) (index := 26) (ty := .int) (f' := (mC cI cII κ σ1)) S hK hP hκ hA hS hiX4 tyX4_ok nmX4 (by decide) rfl rfl (by decide) rfl (by decide +kernel) rfl (by decide +kernel) rfl rfl (Nat.le_of_ble_eq_true rfl) (fun j _ => by rw [eσ1]; exact mC_p0 j) dX4_addState_2 (fun H locs hP hS => ?_)
  refine lv_aload_n hx hb dX4_addState_5 rfl (lv_at hl 0 rfl) ?_
  refine g_get (q := 0) (ci := 4) (k := 1) (ref := RX4) (C := RX4) (T := TX4) (N := 12) (index := 9) (v := .int ((σ1.1 1))) S hK hP hiX4 (by decide) rfl rfl (by decide) rfl (by decide +kernel) rfl dX4_addState_6 ?_
  refine lv_bipush (v := 12) hx hb dX4_addState_9 (by decide) ?_
  refine lv_icmp_ne (tgt := 20) hx hb dX4_addState_11 (by decide) (fun c11 => ?_) (fun c11 => ?_)
  · have hf := iteT c11 hf
    refine lv_aload_n hx hb dX4_addState_20 rfl (lv_at hl 0 rfl) ?_
    refine lv_dup hx hb dX4_addState_21 rfl ?_
    refine g_get (q := 0) (ci := 4) (k := 1) (ref := RX4) (C := RX4) (T := TX4) (N := 12) (index := 9) (v := .int ((σ1.1 1))) S hK hP hiX4 (by decide) rfl rfl (by decide) rfl (by decide +kernel) rfl dX4_addState_22 ?_
    refine lv_iconst (v := 1) hx hb dX4_addState_25 (by decide) ?_
    refine lv_iadd hx hb dX4_addState_26 ?_
    obtain ⟨σ2, eσ2, hf⟩ := letb_w hf
    refine g_put (q := 0) (ci := 4) (k := 1) (ref := RX4) (C := RX4) (T := TX4) (N := 12) (index := 9) (ty := .int) (f' := (mC cI cII κ σ2)) S hK hP hκ hA hS hiX4 tyX4_ok nmX4 (by decide) rfl rfl (by decide) rfl (by decide +kernel) rfl (by decide +kernel) rfl rfl (Nat.le_of_ble_eq_true rfl) (fun j _ => by rw [eσ2]; exact mC_p1 j) dX4_addState_27 (fun H locs hP hS => ?_)
    refine lv_aload_n hx hb dX4_addState_30 rfl (lv_at hl 0 rfl) ?_
    obtain ⟨σ3, hq31, hf⟩ := obw hf
    refine g_callv (va_runV (As := []) (rest := []) S (met_X4_change l D cI cII κ hκ σ2 σ3 hq31) (cwV 0 S.2.2.2.2 gX4_addState_X4_change rfl rfl rfl (by decide +kernel) ⟨Nat.le_of_ble_eq_true rfl, Nat.le_of_ble_eq_true rfl⟩) (g_preV (N := 12) (T := TX4) hK hP (Nat.le_refl _) (by decide) rfl rfl) rfl rfl hl.1 rfl (lv_room (Nat.le_of_ble_eq_true rfl)) dX4_addState_31 ⟨Nat.le_of_ble_eq_true rfl, Nat.le_of_ble_eq_true rfl⟩) (Nat.le_refl _) hκ hA hP hS (fun j h1 h2 => absurd h2 (Nat.not_lt.mpr h1)) (fun H locs hP hS => ?_)
    refine lv_aload_n hx hb dX4_addState_34 rfl (lv_at hl 0 rfl) ?_
    refine g_get (q := 0) (ci := 4) (k := 1) (ref := RX4) (C := RX4) (T := TX4) (N := 12) (index := 9) (v := .int ((σ3.1 1))) S hK hP hiX4 (by decide) rfl rfl (by decide) rfl (by decide +kernel) rfl dX4_addState_35 ?_
    refine lv_iconst (v := 1) hx hb dX4_addState_38 (by decide) ?_
    refine lv_isub hx hb dX4_addState_39 ?_
    obtain ⟨h8, h9⟩ := Prod.mk.inj (Option.some.inj hf)
    subst h9
    exact g_iret S hr hlk hK hP hS h8 dX4_addState_40
  · have hf := iteN c11 hf
    refine lv_aload_n hx hb dX4_addState_14 rfl (lv_at hl 0 rfl) ?_
    refine lv_iconst (v := 1) hx hb dX4_addState_15 (by decide) ?_
    obtain ⟨v5, σ4, hq16, hf⟩ := bind2_w hf
    refine g_calli (va_runV (As := [.int 1]) (rest := []) S (met_X4_fail l D cI cII κ hκ σ1 1 v5 σ4 hq16) (cwV 1 S.2.2.2.2 gX4_addState_X4_fail rfl rfl rfl (by decide +kernel) ⟨Nat.le_of_ble_eq_true rfl, Nat.le_of_ble_eq_true rfl⟩) (g_preV (N := 12) (T := TX4) hK hP (Nat.le_refl _) (by decide) rfl rfl) rfl rfl hl.1 rfl (lv_room (Nat.le_of_ble_eq_true rfl)) dX4_addState_16 ⟨Nat.le_of_ble_eq_true rfl, Nat.le_of_ble_eq_true rfl⟩) (Nat.le_refl _) hκ hA hP hS (fun j h1 h2 => absurd h2 (Nat.not_lt.mpr h1)) (fun H locs hP hS => ?_)
    obtain ⟨h8, h9⟩ := Prod.mk.inj (Option.some.inj hf)
    subst h9
    exact g_iret S hr hlk hK hP hS h8 dX4_addState_19

set_option maxRecDepth 100000 in
set_option maxHeartbeats 4000000 in
theorem met_X4_step (l : Launch) (D : va_G) (cI cII : ClassId) (κ : Nat → Nat) (hκ : Inj 5 κ) (σ : SX) (p1 : Int32) (p2 : Int32) (p3 : Int32) (r : Int32) (σ' : SX) (hf : fn_X4_step σ p1 p2 p3 = some (r, σ')) : Met l yX4_step wsX4_step ({ frames := 1, cells := 0, slots := 0, locals := 22 } : Room) (va_Pc [.ref (κ 0), .int p1, .int p2, .int p3] (mP D cI cII κ σ)) (QI D cI cII 5 κ (mC cI cII κ σ') r) 0 0 (gA 5 κ) := by
  refine g_enter (cc := cX4_step) (maxL := 5) (ret := (some .int)) (by decide) rfl (Nat.le_of_ble_eq_true rfl) ?_
  intro p e s m args below meth c ls S hr hlk _ hB hl
  have S : CallFix p m c cX4_step 5 s args wsX4_step RX4 := S
  obtain ⟨hP, hK⟩ := hB
  have hl : lv_has ls 5 [(0, .ref (κ 0)), (1, .int p1), (2, .int p2), (3, .int p3)] := hl
  have hS : va_S (gA 5 κ) s.heap s.heap [] := va_S.rf
  have hA : ∀ k, k < 5 → gA 5 κ (κ k) := gA_in
  obtain ⟨hx, hb, hml, hown, hts⟩ := id S
  have hiX4 : ∀ w ∈ u_ws RX4 TX4 12, w ∈ wsX4_step := by decide +kernel
  unfold fn_X4_step at hf
  refine lv_aload_n hx hb dX4_step_0 rfl (lv_at hl 0 rfl) ?_
  refine lv_iconst (v := 0) hx hb dX4_step_1 (by decide) ?_
  obtain ⟨σ1, eσ1, hf⟩ := letb_w hf
  refine g_put (q := 0) (ci := 4) (k := 0) (ref := RX4) (C := RX4) (T := TX4) (N := 12) (index := 26) (ty := .int) (f' := (mC cI cII κ σ1)) S hK hP hκ hA hS hiX4 tyX4_ok nmX4 (by decide) rfl rfl (by decide) rfl (by decide +kernel) rfl (by decide +kernel) rfl rfl (Nat.le_of_ble_eq_true rfl) (fun j _ => by rw [eσ1]; exact mC_p0 j) dX4_step_2 (fun H locs hP hS => ?_)
  refine lv_aload_n hx hb dX4_step_5 rfl (lv_at hl 0 rfl) ?_
  refine lv_iload_n hx hb dX4_step_6 rfl (lv_at hl 1 rfl) ?_
  obtain ⟨v2, hq7, hf⟩ := obw hf
  refine g_calli (va_runV (As := [.int p1]) (rest := []) S (met_X4_isState l D cI cII κ hκ σ1 p1 v2 hq7) (cwV 1 S.2.2.2.2 gX4_step_X4_isState rfl rfl rfl (by decide +kernel) ⟨Nat.le_of_ble_eq_true rfl, Nat.le_of_ble_eq_true rfl⟩) (g_preV (N := 12) (T := TX4) hK hP (Nat.le_refl _) (by decide) rfl rfl) rfl rfl hl.1 rfl (lv_room (Nat.le_of_ble_eq_true rfl)) dX4_step_7 ⟨Nat.le_of_ble_eq_true rfl, Nat.le_of_ble_eq_true rfl⟩) (Nat.le_refl _) hκ hA hP hS (fun j h1 h2 => absurd h2 (Nat.not_lt.mpr h1)) (fun H locs hP hS => ?_)
  obtain ⟨K28, hK28, hf⟩ := letb_w hf
  have J28 : ∀ (_u : Unit), K28 _u = some (r, σ') → ∀ (H : Heap) (locs : List Loc) (ls : Array Slot), va_P D vwCl (gw 5 κ (mC cI cII κ σ1)) H → va_S (gA 5 κ) s.heap H locs → lv_has ls 5 [(0, .ref (κ 0))] → W p l e ({ frames := 1, cells := 0, slots := 0, locals := 22 } : Room) s m args below meth c H locs 0 0 (MQ below (QI D cI cII 5 κ (mC cI cII κ σ') r) args s 0 0 (gA 5 κ)) (F0 m 28 ls []) := by
    intro _u hf H locs ls hP hS hl
    rw [hK28] at hf
    refine lv_aload_n hx hb dX4_step_28 rfl (lv_at hl 0 rfl) ?_
    refine lv_iconst (v := 1) hx hb dX4_step_29 (by decide) ?_
    obtain ⟨v4, σ3, hq30, hf⟩ := bind2_w hf
    refine g_calli (va_runV (As := [.int 1]) (rest := []) S (met_X4_fail l D cI cII κ hκ σ1 1 v4 σ3 hq30) (cwV 1 S.2.2.2.2 gX4_step_X4_fail rfl rfl rfl (by decide +kernel) ⟨Nat.le_of_ble_eq_true rfl, Nat.le_of_ble_eq_true rfl⟩) (g_preV (N := 12) (T := TX4) hK hP (Nat.le_refl _) (by decide) rfl rfl) rfl rfl hl.1 rfl (lv_room (Nat.le_of_ble_eq_true rfl)) dX4_step_30 ⟨Nat.le_of_ble_eq_true rfl, Nat.le_of_ble_eq_true rfl⟩) (Nat.le_refl _) hκ hA hP hS (fun j h1 h2 => absurd h2 (Nat.not_lt.mpr h1)) (fun H locs hP hS => ?_)
    obtain ⟨h8, h9⟩ := Prod.mk.inj (Option.some.inj hf)
    subst h9
    exact g_iret S hr hlk hK hP hS h8 dX4_step_33
  refine lv_if_eq (tgt := 28) hx hb dX4_step_10 (by decide) (fun c10 => ?_) (fun c10 => ?_)
  · have hf := iteT c10 hf
    exact J28 _ hf _ _ _ hP hS (lv_sub hl [0] rfl)
  · have hf := iteF c10 hf
    refine lv_iload_n hx hb dX4_step_13 rfl (lv_at hl 2 rfl) ?_
    obtain ⟨v5, hq14, hf⟩ := obw hf
    refine g_calli (va_runS (As := [.int p2]) (rest := []) S (met_X4_isLabel l D cI cII κ hκ σ1 p2 v5 hq14) (va_cwS 1 S.2.2.2.2 gX4_step_X4_isLabel rfl rfl rfl (by decide +kernel) ⟨Nat.le_of_ble_eq_true rfl, Nat.le_of_ble_eq_true rfl⟩) (g_preS hK hP (Nat.le_refl _)) rfl rfl hl.1 rfl (lv_room (Nat.le_of_ble_eq_true rfl)) dX4_step_14 ⟨Nat.le_of_ble_eq_true rfl, Nat.le_of_ble_eq_true rfl⟩) (Nat.le_refl _) hκ hA hP hS (fun j h1 h2 => absurd h2 (Nat.not_lt.mpr h1)) (fun H locs hP hS => ?_)
    refine lv_if_eq (tgt := 28) hx hb dX4_step_17 (by decide) (fun c17 => ?_) (fun c17 => ?_)
    · have hf := iteT c17 hf
      exact J28 _ hf _ _ _ hP hS (lv_sub hl [0] rfl)
    · have hf := iteF c17 hf
      refine lv_aload_n hx hb dX4_step_20 rfl (lv_at hl 0 rfl) ?_
      refine lv_iload_n hx hb dX4_step_21 rfl (lv_at hl 3 rfl) ?_
      obtain ⟨v6, hq22, hf⟩ := obw hf
      refine g_calli (va_runV (As := [.int p3]) (rest := []) S (met_X4_isState l D cI cII κ hκ σ1 p3 v6 hq22) (cwV 1 S.2.2.2.2 gX4_step_X4_isState rfl rfl rfl (by decide +kernel) ⟨Nat.le_of_ble_eq_true rfl, Nat.le_of_ble_eq_true rfl⟩) (g_preV (N := 12) (T := TX4) hK hP (Nat.le_refl _) (by decide) rfl rfl) rfl rfl hl.1 rfl (lv_room (Nat.le_of_ble_eq_true rfl)) dX4_step_22 ⟨Nat.le_of_ble_eq_true rfl, Nat.le_of_ble_eq_true rfl⟩) (Nat.le_refl _) hκ hA hP hS (fun j h1 h2 => absurd h2 (Nat.not_lt.mpr h1)) (fun H locs hP hS => ?_)
      refine lv_if_ne (tgt := 34) hx hb dX4_step_25 (by decide) (fun c25 => ?_) (fun c25 => ?_)
      · have hf := iteT c25 hf
        refine lv_aload_n hx hb dX4_step_34 rfl (lv_at hl 0 rfl) ?_
        refine lv_iload_n hx hb dX4_step_35 rfl (lv_at hl 1 rfl) ?_
        refine lv_iload_n hx hb dX4_step_36 rfl (lv_at hl 2 rfl) ?_
        obtain ⟨v7, hq37, hf⟩ := obw hf
        refine g_calli (va_runV (As := [.int p1, .int p2]) (rest := []) S (met_X4_to l D cI cII κ hκ σ1 p1 p2 v7 hq37) (cwV 2 S.2.2.2.2 gX4_step_X4_to rfl rfl rfl (by decide +kernel) ⟨Nat.le_of_ble_eq_true rfl, Nat.le_of_ble_eq_true rfl⟩) (g_preV (N := 12) (T := TX4) hK hP (Nat.le_refl _) (by decide) rfl rfl) rfl rfl hl.1 rfl (lv_room (Nat.le_of_ble_eq_true rfl)) dX4_step_37 ⟨Nat.le_of_ble_eq_true rfl, Nat.le_of_ble_eq_true rfl⟩) (Nat.le_refl _) hκ hA hP hS (fun j h1 h2 => absurd h2 (Nat.not_lt.mpr h1)) (fun H locs hP hS => ?_)
        obtain ⟨v8, ev8, hf⟩ := letb_w hf
        refine lv_nmi ev8 ?_
        refine lv_istore (lv' := [(4, .int v8), (0, .ref (κ 0)), (1, .int p1), (2, .int p2), (3, .int p3)]) hx hb dX4_step_40 hl (by decide) rfl (fun ls hl => ?_)
        refine lv_aload_n hx hb dX4_step_42 rfl (lv_at hl 1 rfl) ?_
        refine g_get (q := 0) (ci := 4) (k := 2) (ref := RX4) (C := RX4) (T := TX4) (N := 12) (index := 13) (v := .ref (κ 1)) S hK hP hiX4 (by decide) rfl rfl (by decide) rfl (by decide +kernel) rfl dX4_step_43 ?_
        refine lv_bipush (v := 6) hx hb dX4_step_46 (by decide) ?_
        refine lv_iload_n hx hb dX4_step_48 rfl (lv_at hl 2 rfl) ?_
        refine lv_imul hx hb dX4_step_49 ?_
        refine lv_iload_n hx hb dX4_step_50 rfl (lv_at hl 3 rfl) ?_
        refine lv_iadd hx hb dX4_step_51 ?_
        refine lv_iload_n hx hb dX4_step_52 rfl (lv_at hl 4 rfl) ?_
        obtain ⟨σ9, hσ9, hf⟩ := obw hf
        refine g_ast (a := 1) (len := 72) (f' := (mC cI cII κ σ9)) S hK hP hκ hA hS (by decide) (mC_arr (by decide) rfl) hσ9 (fun j _ => mC_as hσ9 (by decide) rfl j) dX4_step_53 (fun H locs hP hS => ?_)
        refine lv_aload_n hx hb dX4_step_54 rfl (lv_at hl 1 rfl) ?_
        obtain ⟨σ10, hq55, hf⟩ := obw hf
        refine g_callv (va_runV (As := []) (rest := []) S (met_X4_change l D cI cII κ hκ σ9 σ10 hq55) (cwV 0 S.2.2.2.2 gX4_step_X4_change rfl rfl rfl (by decide +kernel) ⟨Nat.le_of_ble_eq_true rfl, Nat.le_of_ble_eq_true rfl⟩) (g_preV (N := 12) (T := TX4) hK hP (Nat.le_refl _) (by decide) rfl rfl) rfl rfl hl.1 rfl (lv_room (Nat.le_of_ble_eq_true rfl)) dX4_step_55 ⟨Nat.le_of_ble_eq_true rfl, Nat.le_of_ble_eq_true rfl⟩) (Nat.le_refl _) hκ hA hP hS (fun j h1 h2 => absurd h2 (Nat.not_lt.mpr h1)) (fun H locs hP hS => ?_)
        refine lv_iload hx hb dX4_step_58 (lv_at hl 0 rfl) ?_
        obtain ⟨h8, h9⟩ := Prod.mk.inj (Option.some.inj hf)
        subst h9
        exact g_iret S hr hlk hK hP hS h8 dX4_step_60
      · have hf := iteN c25 hf
        exact J28 _ hf _ _ _ hP hS (lv_sub hl [0] rfl)

set_option maxRecDepth 100000 in
set_option maxHeartbeats 4000000 in
theorem met_X4_unstep (l : Launch) (D : va_G) (cI cII : ClassId) (κ : Nat → Nat) (hκ : Inj 5 κ) (σ : SX) (p1 : Int32) (p2 : Int32) (r : Int32) (σ' : SX) (hf : fn_X4_unstep σ p1 p2 = some (r, σ')) : Met l yX4_unstep wsX4_unstep ({ frames := 1, cells := 0, slots := 0, locals := 22 } : Room) (va_Pc [.ref (κ 0), .int p1, .int p2] (mP D cI cII κ σ)) (QI D cI cII 5 κ (mC cI cII κ σ') r) 0 0 (gA 5 κ) := by
  refine g_enter (cc := cX4_unstep) (maxL := 4) (ret := (some .boolean)) (by decide) rfl (Nat.le_of_ble_eq_true rfl) ?_
  intro p e s m args below meth c ls S hr hlk _ hB hl
  have S : CallFix p m c cX4_unstep 4 s args wsX4_unstep RX4 := S
  obtain ⟨hP, hK⟩ := hB
  have hl : lv_has ls 4 [(0, .ref (κ 0)), (1, .int p1), (2, .int p2)] := hl
  have hS : va_S (gA 5 κ) s.heap s.heap [] := va_S.rf
  have hA : ∀ k, k < 5 → gA 5 κ (κ k) := gA_in
  obtain ⟨hx, hb, hml, hown, hts⟩ := id S
  have hiX4 : ∀ w ∈ u_ws RX4 TX4 12, w ∈ wsX4_unstep := by decide +kernel
  unfold fn_X4_unstep at hf
  refine lv_aload_n hx hb dX4_unstep_0 rfl (lv_at hl 0 rfl) ?_
  refine lv_aload_n hx hb dX4_unstep_1 rfl (lv_at hl 0 rfl) ?_
  refine lv_iload_n hx hb dX4_unstep_2 rfl (lv_at hl 1 rfl) ?_
  obtain ⟨v1, hq3, hf⟩ := obw hf
  refine g_calli (va_runV (As := [.int p1]) (rest := [.ref (κ 0)]) S (met_X4_isState l D cI cII κ hκ σ p1 v1 hq3) (cwV 1 S.2.2.2.2 gX4_unstep_X4_isState rfl rfl rfl (by decide +kernel) ⟨Nat.le_of_ble_eq_true rfl, Nat.le_of_ble_eq_true rfl⟩) (g_preV (N := 12) (T := TX4) hK hP (Nat.le_refl _) (by decide) rfl rfl) rfl rfl hl.1 rfl (lv_room (Nat.le_of_ble_eq_true rfl)) dX4_unstep_3 ⟨Nat.le_of_ble_eq_true rfl, Nat.le_of_ble_eq_true rfl⟩) (Nat.le_refl _) hκ hA hP hS (fun j h1 h2 => absurd h2 (Nat.not_lt.mpr h1)) (fun H locs hP hS => ?_)
  obtain ⟨K21, hK21, hf⟩ := letb_w hf
  have J21 : ∀ (z1_21 : Int32), K21 z1_21 = some (r, σ') → ∀ (H : Heap) (locs : List Loc) (ls : Array Slot), va_P D vwCl (gw 5 κ (mC cI cII κ σ)) H → va_S (gA 5 κ) s.heap H locs → lv_has ls 4 [(0, .ref (κ 0)), (1, .int p1), (2, .int p2)] → W p l e ({ frames := 1, cells := 0, slots := 0, locals := 22 } : Room) s m args below meth c H locs 0 0 (MQ below (QI D cI cII 5 κ (mC cI cII κ σ') r) args s 0 0 (gA 5 κ)) (F0 m 21 ls [.int z1_21, .ref (κ 0)]) := by
    intro z1_21 hf H locs ls hP hS hl
    rw [hK21] at hf
    obtain ⟨σ2, eσ2, hf⟩ := letb_w hf
    refine g_put (q := 0) (ci := 4) (k := 0) (ref := RX4) (C := RX4) (T := TX4) (N := 12) (index := 26) (ty := .int) (f' := (mC cI cII κ σ2)) S hK hP hκ hA hS hiX4 tyX4_ok nmX4 (by decide) rfl rfl (by decide) rfl (by decide +kernel) rfl (by decide +kernel) rfl rfl (Nat.le_of_ble_eq_true rfl) (fun j _ => by rw [eσ2]; exact mC_p0 j) dX4_unstep_21 (fun H locs hP hS => ?_)
    refine lv_aload_n hx hb dX4_unstep_24 rfl (lv_at hl 0 rfl) ?_
    refine g_get (q := 0) (ci := 4) (k := 0) (ref := RX4) (C := RX4) (T := TX4) (N := 12) (index := 26) (v := .int ((σ2.1 0))) S hK hP hiX4 (by decide) rfl rfl (by decide) rfl (by decide +kernel) rfl dX4_unstep_25 ?_
    refine lv_if_eq (tgt := 33) hx hb dX4_unstep_28 (by decide) (fun c28 => ?_) (fun c28 => ?_)
    · have hf := iteT c28 hf
      refine lv_aload_n hx hb dX4_unstep_33 rfl (lv_at hl 0 rfl) ?_
      refine lv_iload_n hx hb dX4_unstep_34 rfl (lv_at hl 1 rfl) ?_
      refine lv_iload_n hx hb dX4_unstep_35 rfl (lv_at hl 2 rfl) ?_
      obtain ⟨v3, hq36, hf⟩ := obw hf
      refine g_calli (va_runV (As := [.int p1, .int p2]) (rest := []) S (met_X4_to l D cI cII κ hκ σ2 p1 p2 v3 hq36) (cwV 2 S.2.2.2.2 gX4_unstep_X4_to rfl rfl rfl (by decide +kernel) ⟨Nat.le_of_ble_eq_true rfl, Nat.le_of_ble_eq_true rfl⟩) (g_preV (N := 12) (T := TX4) hK hP (Nat.le_refl _) (by decide) rfl rfl) rfl rfl hl.1 rfl (lv_room (Nat.le_of_ble_eq_true rfl)) dX4_unstep_36 ⟨Nat.le_of_ble_eq_true rfl, Nat.le_of_ble_eq_true rfl⟩) (Nat.le_refl _) hκ hA hP hS (fun j h1 h2 => absurd h2 (Nat.not_lt.mpr h1)) (fun H locs hP hS => ?_)
      refine lv_iconst (v := -1) hx hb dX4_unstep_39 (by decide) ?_
      obtain ⟨K48, hK48, hf⟩ := letb_w hf
      have J48 : ∀ (z0_48 : Int32), K48 z0_48 = some (r, σ') → ∀ (H : Heap) (locs : List Loc) (ls : Array Slot), va_P D vwCl (gw 5 κ (mC cI cII κ σ2)) H → va_S (gA 5 κ) s.heap H locs → lv_has ls 4 [(0, .ref (κ 0)), (1, .int p1), (2, .int p2)] → W p l e ({ frames := 1, cells := 0, slots := 0, locals := 22 } : Room) s m args below meth c H locs 0 0 (MQ below (QI D cI cII 5 κ (mC cI cII κ σ') r) args s 0 0 (gA 5 κ)) (F0 m 48 ls [.int z0_48]) := by
        intro z0_48 hf H locs ls hP hS hl
        rw [hK48] at hf
        obtain ⟨v4, ev4, hf⟩ := letb_w hf
        refine lv_nmi ev4 ?_
        refine lv_istore_n (lv' := [(3, .int v4), (0, .ref (κ 0)), (1, .int p1), (2, .int p2)]) hx hb dX4_unstep_48 rfl hl (by decide) rfl (fun ls hl => ?_)
        refine lv_aload_n hx hb dX4_unstep_49 rfl (lv_at hl 1 rfl) ?_
        refine g_get (q := 0) (ci := 4) (k := 2) (ref := RX4) (C := RX4) (T := TX4) (N := 12) (index := 13) (v := .ref (κ 1)) S hK hP hiX4 (by decide) rfl rfl (by decide) rfl (by decide +kernel) rfl dX4_unstep_50 ?_
        refine lv_bipush (v := 6) hx hb dX4_unstep_53 (by decide) ?_
        refine lv_iload_n hx hb dX4_unstep_55 rfl (lv_at hl 2 rfl) ?_
        refine lv_imul hx hb dX4_unstep_56 ?_
        refine lv_iload_n hx hb dX4_unstep_57 rfl (lv_at hl 3 rfl) ?_
        refine lv_iadd hx hb dX4_unstep_58 ?_
        refine lv_iconst (v := -1) hx hb dX4_unstep_59 (by decide) ?_
        obtain ⟨σ5, hσ5, hf⟩ := obw hf
        refine g_ast (a := 1) (len := 72) (f' := (mC cI cII κ σ5)) S hK hP hκ hA hS (by decide) (mC_arr (by decide) rfl) hσ5 (fun j _ => mC_as hσ5 (by decide) rfl j) dX4_unstep_60 (fun H locs hP hS => ?_)
        refine lv_aload_n hx hb dX4_unstep_61 rfl (lv_at hl 1 rfl) ?_
        obtain ⟨σ6, hq62, hf⟩ := obw hf
        refine g_callv (va_runV (As := []) (rest := []) S (met_X4_change l D cI cII κ hκ σ5 σ6 hq62) (cwV 0 S.2.2.2.2 gX4_unstep_X4_change rfl rfl rfl (by decide +kernel) ⟨Nat.le_of_ble_eq_true rfl, Nat.le_of_ble_eq_true rfl⟩) (g_preV (N := 12) (T := TX4) hK hP (Nat.le_refl _) (by decide) rfl rfl) rfl rfl hl.1 rfl (lv_room (Nat.le_of_ble_eq_true rfl)) dX4_unstep_62 ⟨Nat.le_of_ble_eq_true rfl, Nat.le_of_ble_eq_true rfl⟩) (Nat.le_refl _) hκ hA hP hS (fun j h1 h2 => absurd h2 (Nat.not_lt.mpr h1)) (fun H locs hP hS => ?_)
        refine lv_iload_n hx hb dX4_unstep_65 rfl (lv_at hl 0 rfl) ?_
        obtain ⟨w9, hw9, hf⟩ := obw hf
        obtain ⟨h8, h9⟩ := Prod.mk.inj (Option.some.inj hf)
        subst h8
        subst h9
        exact g_zret S hr hlk hK hP hS hw9 dX4_unstep_66
      refine lv_icmp_eq (tgt := 47) hx hb dX4_unstep_40 (by decide) (fun c40 => ?_) (fun c40 => ?_)
      · have hf := iteT c40 hf
        refine lv_iconst (v := 0) hx hb dX4_unstep_47 (by decide) ?_
        exact J48 _ hf _ _ _ hP hS (lv_sub hl [0, 1, 2] rfl)
      · have hf := iteF c40 hf
        refine lv_iconst (v := 1) hx hb dX4_unstep_43 (by decide) ?_
        refine lv_goto (tgt := 48) hx hb dX4_unstep_44 (by decide) ?_
        exact J48 _ hf _ _ _ hP hS (lv_sub hl [0, 1, 2] rfl)
    · have hf := iteF c28 hf
      refine lv_iconst (v := 0) hx hb dX4_unstep_31 (by decide) ?_
      obtain ⟨w9, hw9, hf⟩ := obw hf
      obtain ⟨h8, h9⟩ := Prod.mk.inj (Option.some.inj hf)
      subst h8
      subst h9
      exact g_zret S hr hlk hK hP hS hw9 dX4_unstep_32
  obtain ⟨K20, hK20, hf⟩ := letb_w hf
  have J20 : ∀ (_u : Unit), K20 _u = some (r, σ') → ∀ (H : Heap) (locs : List Loc) (ls : Array Slot), va_P D vwCl (gw 5 κ (mC cI cII κ σ)) H → va_S (gA 5 κ) s.heap H locs → lv_has ls 4 [(0, .ref (κ 0)), (1, .int p1), (2, .int p2)] → W p l e ({ frames := 1, cells := 0, slots := 0, locals := 22 } : Room) s m args below meth c H locs 0 0 (MQ below (QI D cI cII 5 κ (mC cI cII κ σ') r) args s 0 0 (gA 5 κ)) (F0 m 20 ls [.ref (κ 0)]) := by
    intro _u hf H locs ls hP hS hl
    rw [hK20] at hf
    refine lv_iconst (v := 1) hx hb dX4_unstep_20 (by decide) ?_
    exact J21 _ hf _ _ _ hP hS (lv_sub hl [0, 1, 2] rfl)
  refine lv_if_eq (tgt := 20) hx hb dX4_unstep_6 (by decide) (fun c6 => ?_) (fun c6 => ?_)
  · have hf := iteT c6 hf
    exact J20 _ hf _ _ _ hP hS (lv_sub hl [0, 1, 2] rfl)
  · have hf := iteF c6 hf
    refine lv_iload_n hx hb dX4_unstep_9 rfl (lv_at hl 2 rfl) ?_
    obtain ⟨v7, hq10, hf⟩ := obw hf
    refine g_calli (va_runS (As := [.int p2]) (rest := [.ref (κ 0)]) S (met_X4_isLabel l D cI cII κ hκ σ p2 v7 hq10) (va_cwS 1 S.2.2.2.2 gX4_unstep_X4_isLabel rfl rfl rfl (by decide +kernel) ⟨Nat.le_of_ble_eq_true rfl, Nat.le_of_ble_eq_true rfl⟩) (g_preS hK hP (Nat.le_refl _)) rfl rfl hl.1 rfl (lv_room (Nat.le_of_ble_eq_true rfl)) dX4_unstep_10 ⟨Nat.le_of_ble_eq_true rfl, Nat.le_of_ble_eq_true rfl⟩) (Nat.le_refl _) hκ hA hP hS (fun j h1 h2 => absurd h2 (Nat.not_lt.mpr h1)) (fun H locs hP hS => ?_)
    refine lv_if_eq (tgt := 20) hx hb dX4_unstep_13 (by decide) (fun c13 => ?_) (fun c13 => ?_)
    · have hf := iteT c13 hf
      exact J20 _ hf _ _ _ hP hS (lv_sub hl [0, 1, 2] rfl)
    · have hf := iteF c13 hf
      refine lv_iconst (v := 0) hx hb dX4_unstep_16 (by decide) ?_
      refine lv_goto (tgt := 21) hx hb dX4_unstep_17 (by decide) ?_
      exact J21 _ hf _ _ _ hP hS (lv_sub hl [0, 1, 2] rfl)

set_option maxRecDepth 100000 in
set_option maxHeartbeats 4000000 in
theorem met_X4_rename (l : Launch) (D : va_G) (cI cII : ClassId) (κ : Nat → Nat) (hκ : Inj 5 κ) (σ : SX) (p1 : Int32) (p2 : Int32) (r : Int32) (σ' : SX) (hf : fn_X4_rename σ p1 p2 = some (r, σ')) : Met l yX4_rename wsX4_rename ({ frames := 1, cells := 0, slots := 0, locals := 22 } : Room) (va_Pc [.ref (κ 0), .int p1, .int p2] (mP D cI cII κ σ)) (QI D cI cII 5 κ (mC cI cII κ σ') r) 0 0 (gA 5 κ) := by
  refine g_enter (cc := cX4_rename) (maxL := 5) (ret := (some .int)) (by decide) rfl (Nat.le_of_ble_eq_true rfl) ?_
  intro p e s m args below meth c ls S hr hlk _ hB hl
  have S : CallFix p m c cX4_rename 5 s args wsX4_rename RX4 := S
  obtain ⟨hP, hK⟩ := hB
  have hl : lv_has ls 5 [(0, .ref (κ 0)), (1, .int p1), (2, .int p2)] := hl
  have hS : va_S (gA 5 κ) s.heap s.heap [] := va_S.rf
  have hA : ∀ k, k < 5 → gA 5 κ (κ k) := gA_in
  obtain ⟨hx, hb, hml, hown, hts⟩ := id S
  have hiX4 : ∀ w ∈ u_ws RX4 TX4 12, w ∈ wsX4_rename := by decide +kernel
  unfold fn_X4_rename at hf
  refine lv_aload_n hx hb dX4_rename_0 rfl (lv_at hl 0 rfl) ?_
  refine lv_iconst (v := 0) hx hb dX4_rename_1 (by decide) ?_
  obtain ⟨σ1, eσ1, hf⟩ := letb_w hf
  refine g_put (q := 0) (ci := 4) (k := 0) (ref := RX4) (C := RX4) (T := TX4) (N := 12) (index := 26) (ty := .int) (f' := (mC cI cII κ σ1)) S hK hP hκ hA hS hiX4 tyX4_ok nmX4 (by decide) rfl rfl (by decide) rfl (by decide +kernel) rfl (by decide +kernel) rfl rfl (Nat.le_of_ble_eq_true rfl) (fun j _ => by rw [eσ1]; exact mC_p0 j) dX4_rename_2 (fun H locs hP hS => ?_)
  refine lv_iload_n hx hb dX4_rename_5 rfl (lv_at hl 1 rfl) ?_
  obtain ⟨v2, hq6, hf⟩ := obw hf
  refine g_calli (va_runS (As := [.int p1]) (rest := []) S (met_X4_isLabel l D cI cII κ hκ σ1 p1 v2 hq6) (va_cwS 1 S.2.2.2.2 gX4_rename_X4_isLabel rfl rfl rfl (by decide +kernel) ⟨Nat.le_of_ble_eq_true rfl, Nat.le_of_ble_eq_true rfl⟩) (g_preS hK hP (Nat.le_refl _)) rfl rfl hl.1 rfl (lv_room (Nat.le_of_ble_eq_true rfl)) dX4_rename_6 ⟨Nat.le_of_ble_eq_true rfl, Nat.le_of_ble_eq_true rfl⟩) (Nat.le_refl _) hκ hA hP hS (fun j h1 h2 => absurd h2 (Nat.not_lt.mpr h1)) (fun H locs hP hS => ?_)
  obtain ⟨K19, hK19, hf⟩ := letb_w hf
  have J19 : ∀ (_u : Unit), K19 _u = some (r, σ') → ∀ (H : Heap) (locs : List Loc) (ls : Array Slot), va_P D vwCl (gw 5 κ (mC cI cII κ σ1)) H → va_S (gA 5 κ) s.heap H locs → lv_has ls 5 [(0, .ref (κ 0))] → W p l e ({ frames := 1, cells := 0, slots := 0, locals := 22 } : Room) s m args below meth c H locs 0 0 (MQ below (QI D cI cII 5 κ (mC cI cII κ σ') r) args s 0 0 (gA 5 κ)) (F0 m 19 ls []) := by
    intro _u hf H locs ls hP hS hl
    rw [hK19] at hf
    refine lv_aload_n hx hb dX4_rename_19 rfl (lv_at hl 0 rfl) ?_
    refine lv_iconst (v := 1) hx hb dX4_rename_20 (by decide) ?_
    obtain ⟨v4, σ3, hq21, hf⟩ := bind2_w hf
    refine g_calli (va_runV (As := [.int 1]) (rest := []) S (met_X4_fail l D cI cII κ hκ σ1 1 v4 σ3 hq21) (cwV 1 S.2.2.2.2 gX4_rename_X4_fail rfl rfl rfl (by decide +kernel) ⟨Nat.le_of_ble_eq_true rfl, Nat.le_of_ble_eq_true rfl⟩) (g_preV (N := 12) (T := TX4) hK hP (Nat.le_refl _) (by decide) rfl rfl) rfl rfl hl.1 rfl (lv_room (Nat.le_of_ble_eq_true rfl)) dX4_rename_21 ⟨Nat.le_of_ble_eq_true rfl, Nat.le_of_ble_eq_true rfl⟩) (Nat.le_refl _) hκ hA hP hS (fun j h1 h2 => absurd h2 (Nat.not_lt.mpr h1)) (fun H locs hP hS => ?_)
    obtain ⟨h8, h9⟩ := Prod.mk.inj (Option.some.inj hf)
    subst h9
    exact g_iret S hr hlk hK hP hS h8 dX4_rename_24
  refine lv_if_eq (tgt := 19) hx hb dX4_rename_9 (by decide) (fun c9 => ?_) (fun c9 => ?_)
  · have hf := iteT c9 hf
    exact J19 _ hf _ _ _ hP hS (lv_sub hl [0] rfl)
  · have hf := iteF c9 hf
    refine lv_iload_n hx hb dX4_rename_12 rfl (lv_at hl 2 rfl) ?_
    obtain ⟨v5, hq13, hf⟩ := obw hf
    refine g_calli (va_runS (As := [.int p2]) (rest := []) S (met_X4_isLabel l D cI cII κ hκ σ1 p2 v5 hq13) (va_cwS 1 S.2.2.2.2 gX4_rename_X4_isLabel rfl rfl rfl (by decide +kernel) ⟨Nat.le_of_ble_eq_true rfl, Nat.le_of_ble_eq_true rfl⟩) (g_preS hK hP (Nat.le_refl _)) rfl rfl hl.1 rfl (lv_room (Nat.le_of_ble_eq_true rfl)) dX4_rename_13 ⟨Nat.le_of_ble_eq_true rfl, Nat.le_of_ble_eq_true rfl⟩) (Nat.le_refl _) hκ hA hP hS (fun j h1 h2 => absurd h2 (Nat.not_lt.mpr h1)) (fun H locs hP hS => ?_)
    refine lv_if_ne (tgt := 25) hx hb dX4_rename_16 (by decide) (fun c16 => ?_) (fun c16 => ?_)
    · have hf := iteT c16 hf
      refine lv_iconst (v := 0) hx hb dX4_rename_25 (by decide) ?_
      obtain ⟨v6, ev6, hf⟩ := letb_w hf
      refine lv_nmi ev6 ?_
      refine lv_istore_n (lv' := [(3, .int v6), (0, .ref (κ 0)), (1, .int p1), (2, .int p2)]) hx hb dX4_rename_26 rfl hl (by decide) rfl (fun ls hl => ?_)
      refine lv_iconst (v := 0) hx hb dX4_rename_27 (by decide) ?_
      obtain ⟨v7, ev7, hf⟩ := letb_w hf
      refine lv_nmi ev7 ?_
      refine lv_istore (lv' := [(4, .int v7), (3, .int v6), (0, .ref (κ 0)), (1, .int p1), (2, .int p2)]) hx hb dX4_rename_28 hl (by decide) rfl (fun ls hl => ?_)
      refine loopF_w (P := fun (g : Int32 → Int32 → SX → Option (Int32 × SX)) => ∀ (x3_30 : Int32) (x4_30 : Int32) (σ_30 : SX), g x3_30 x4_30 σ_30 = some (r, σ') → ∀ (H : Heap) (locs : List Loc) (ls : Array Slot), va_P D vwCl (gw 5 κ (mC cI cII κ σ_30)) H → va_S (gA 5 κ) s.heap H locs → lv_has ls 5 [(0, .ref (κ 0)), (1, .int p1), (2, .int p2), (3, .int x3_30), (4, .int x4_30)] → W p l e ({ frames := 1, cells := 0, slots := 0, locals := 22 } : Room) s m args below meth c H locs 0 0 (MQ below (QI D cI cII 5 κ (mC cI cII κ σ') r) args s 0 0 (gA 5 κ)) (F0 m 30 ls [])) (fun _ _ _ h => by simp at h) ?_ FU _ _ _ hf _ _ _ hP hS (lv_sub hl [2, 3, 4, 1, 0] rfl)
      intro rec30 ih30 x3_30 x4_30 σ_30 hf H locs ls hP hS hl
      unfold bd_X4_rename_30 at hf
      refine lv_iload hx hb dX4_rename_30 (lv_at hl 4 rfl) ?_
      refine lv_aload_n hx hb dX4_rename_32 rfl (lv_at hl 0 rfl) ?_
      refine g_get (q := 0) (ci := 4) (k := 1) (ref := RX4) (C := RX4) (T := TX4) (N := 12) (index := 9) (v := .int ((σ_30.1 1))) S hK hP hiX4 (by decide) rfl rfl (by decide) rfl (by decide +kernel) rfl dX4_rename_33 ?_
      refine lv_icmp_ge (tgt := 83) hx hb dX4_rename_36 (by decide) (fun c36 => ?_) (fun c36 => ?_)
      · have hf := iteT c36 hf
        refine lv_aload_n hx hb dX4_rename_83 rfl (lv_at hl 0 rfl) ?_
        refine g_get (q := 0) (ci := 4) (k := 0) (ref := RX4) (C := RX4) (T := TX4) (N := 12) (index := 26) (v := .int ((σ_30.1 0))) S hK hP hiX4 (by decide) rfl rfl (by decide) rfl (by decide +kernel) rfl dX4_rename_84 ?_
        refine lv_if_eq (tgt := 92) hx hb dX4_rename_87 (by decide) (fun c87 => ?_) (fun c87 => ?_)
        · have hf := iteT c87 hf
          refine lv_iconst (v := 0) hx hb dX4_rename_92 (by decide) ?_
          obtain ⟨v8, ev8, hf⟩ := letb_w hf
          refine lv_nmi ev8 ?_
          refine lv_istore (lv' := [(4, .int v8), (0, .ref (κ 0)), (1, .int p1), (2, .int p2), (3, .int x3_30)]) hx hb dX4_rename_93 hl (by decide) rfl (fun ls hl => ?_)
          refine loopF_w (P := fun (g : Int32 → SX → Option (Int32 × SX)) => ∀ (x4_95 : Int32) (σ_95 : SX), g x4_95 σ_95 = some (r, σ') → ∀ (H : Heap) (locs : List Loc) (ls : Array Slot), va_P D vwCl (gw 5 κ (mC cI cII κ σ_95)) H → va_S (gA 5 κ) s.heap H locs → lv_has ls 5 [(0, .ref (κ 0)), (1, .int p1), (2, .int p2), (3, .int x3_30), (4, .int x4_95)] → W p l e ({ frames := 1, cells := 0, slots := 0, locals := 22 } : Room) s m args below meth c H locs 0 0 (MQ below (QI D cI cII 5 κ (mC cI cII κ σ') r) args s 0 0 (gA 5 κ)) (F0 m 95 ls [])) (fun _ _ h => by simp at h) ?_ FU _ _ hf _ _ _ hP hS (lv_sub hl [1, 2, 3, 4, 0] rfl)
          intro rec95 ih95 x4_95 σ_95 hf H locs ls hP hS hl
          unfold bd_X4_rename_95 at hf
          refine lv_iload hx hb dX4_rename_95 (lv_at hl 4 rfl) ?_
          refine lv_aload_n hx hb dX4_rename_97 rfl (lv_at hl 0 rfl) ?_
          refine g_get (q := 0) (ci := 4) (k := 1) (ref := RX4) (C := RX4) (T := TX4) (N := 12) (index := 9) (v := .int ((σ_95.1 1))) S hK hP hiX4 (by decide) rfl rfl (by decide) rfl (by decide +kernel) rfl dX4_rename_98 ?_
          obtain ⟨K161, hK161, hf⟩ := letb_w hf
          have J161 : ∀ (_u : Unit), K161 _u = some (r, σ') → ∀ (H : Heap) (locs : List Loc) (ls : Array Slot), va_P D vwCl (gw 5 κ (mC cI cII κ σ_95)) H → va_S (gA 5 κ) s.heap H locs → lv_has ls 5 [(0, .ref (κ 0)), (3, .int x3_30)] → W p l e ({ frames := 1, cells := 0, slots := 0, locals := 22 } : Room) s m args below meth c H locs 0 0 (MQ below (QI D cI cII 5 κ (mC cI cII κ σ') r) args s 0 0 (gA 5 κ)) (F0 m 161 ls []) := by
            intro _u hf H locs ls hP hS hl
            rw [hK161] at hf
            refine lv_aload_n hx hb dX4_rename_161 rfl (lv_at hl 0 rfl) ?_
            obtain ⟨σ9, hq162, hf⟩ := obw hf
            refine g_callv (va_runV (As := []) (rest := []) S (met_X4_change l D cI cII κ hκ σ_95 σ9 hq162) (cwV 0 S.2.2.2.2 gX4_rename_X4_change rfl rfl rfl (by decide +kernel) ⟨Nat.le_of_ble_eq_true rfl, Nat.le_of_ble_eq_true rfl⟩) (g_preV (N := 12) (T := TX4) hK hP (Nat.le_refl _) (by decide) rfl rfl) rfl rfl hl.1 rfl (lv_room (Nat.le_of_ble_eq_true rfl)) dX4_rename_162 ⟨Nat.le_of_ble_eq_true rfl, Nat.le_of_ble_eq_true rfl⟩) (Nat.le_refl _) hκ hA hP hS (fun j h1 h2 => absurd h2 (Nat.not_lt.mpr h1)) (fun H locs hP hS => ?_)
            refine lv_iload_n hx hb dX4_rename_165 rfl (lv_at hl 1 rfl) ?_
            obtain ⟨h8, h9⟩ := Prod.mk.inj (Option.some.inj hf)
            subst h9
            exact g_iret S hr hlk hK hP hS h8 dX4_rename_166
          refine lv_icmp_ge (tgt := 161) hx hb dX4_rename_101 (by decide) (fun c101 => ?_) (fun c101 => ?_)
          · have hf := iteT c101 hf
            exact J161 _ hf _ _ _ hP hS (lv_sub hl [0, 3] rfl)
          · have hf := iteF c101 hf
            refine lv_iload_n hx hb dX4_rename_104 rfl (lv_at hl 1 rfl) ?_
            refine lv_iload_n hx hb dX4_rename_105 rfl (lv_at hl 2 rfl) ?_
            refine lv_icmp_eq (tgt := 161) hx hb dX4_rename_106 (by decide) (fun c106 => ?_) (fun c106 => ?_)
            · have hf := iteT c106 hf
              exact J161 _ hf _ _ _ hP hS (lv_sub hl [0, 3] rfl)
            · have hf := iteF c106 hf
              refine lv_aload_n hx hb dX4_rename_109 rfl (lv_at hl 0 rfl) ?_
              refine lv_iload hx hb dX4_rename_110 (lv_at hl 4 rfl) ?_
              refine lv_iload_n hx hb dX4_rename_112 rfl (lv_at hl 1 rfl) ?_
              obtain ⟨v10, hq113, hf⟩ := obw hf
              refine g_calli (va_runV (As := [.int x4_95, .int p1]) (rest := []) S (met_X4_to l D cI cII κ hκ σ_95 x4_95 p1 v10 hq113) (cwV 2 S.2.2.2.2 gX4_rename_X4_to rfl rfl rfl (by decide +kernel) ⟨Nat.le_of_ble_eq_true rfl, Nat.le_of_ble_eq_true rfl⟩) (g_preV (N := 12) (T := TX4) hK hP (Nat.le_refl _) (by decide) rfl rfl) rfl rfl hl.1 rfl (lv_room (Nat.le_of_ble_eq_true rfl)) dX4_rename_113 ⟨Nat.le_of_ble_eq_true rfl, Nat.le_of_ble_eq_true rfl⟩) (Nat.le_refl _) hκ hA hP hS (fun j h1 h2 => absurd h2 (Nat.not_lt.mpr h1)) (fun H locs hP hS => ?_)
              refine lv_iconst (v := -1) hx hb dX4_rename_116 (by decide) ?_
              obtain ⟨K155, hK155, hf⟩ := letb_w hf
              have J155 : ∀ (τ_155 : SX), K155 τ_155 = some (r, σ') → ∀ (H : Heap) (locs : List Loc) (ls : Array Slot), va_P D vwCl (gw 5 κ (mC cI cII κ τ_155)) H → va_S (gA 5 κ) s.heap H locs → lv_has ls 5 [(0, .ref (κ 0)), (1, .int p1), (2, .int p2), (3, .int x3_30), (4, .int x4_95)] → W p l e ({ frames := 1, cells := 0, slots := 0, locals := 22 } : Room) s m args below meth c H locs 0 0 (MQ below (QI D cI cII 5 κ (mC cI cII κ σ') r) args s 0 0 (gA 5 κ)) (F0 m 155 ls []) := by
                intro τ_155 hf H locs ls hP hS hl
                rw [hK155] at hf
                obtain ⟨v11, ev11, hf⟩ := letb_w hf
                refine lv_iinc (v := v11) (lv' := [(4, .int v11), (0, .ref (κ 0)), (1, .int p1), (2, .int p2), (3, .int x3_30)]) hx hb dX4_rename_155 hl (k := 4) rfl (by rw [ev11]; rfl) (by decide) rfl (fun ls hl => ?_)
                refine lv_goto (tgt := 95) hx hb dX4_rename_158 (by decide) ?_
                exact ih95 _ _ hf _ _ _ hP hS (lv_sub hl [1, 2, 3, 4, 0] rfl)
              refine lv_icmp_ne (tgt := 123) hx hb dX4_rename_117 (by decide) (fun c117 => ?_) (fun c117 => ?_)
              · have hf := iteT c117 hf
                refine lv_aload_n hx hb dX4_rename_123 rfl (lv_at hl 0 rfl) ?_
                refine g_get (q := 0) (ci := 4) (k := 2) (ref := RX4) (C := RX4) (T := TX4) (N := 12) (index := 13) (v := .ref (κ 1)) S hK hP hiX4 (by decide) rfl rfl (by decide) rfl (by decide +kernel) rfl dX4_rename_124 ?_
                refine lv_bipush (v := 6) hx hb dX4_rename_127 (by decide) ?_
                refine lv_iload hx hb dX4_rename_129 (lv_at hl 4 rfl) ?_
                refine lv_imul hx hb dX4_rename_131 ?_
                refine lv_iload_n hx hb dX4_rename_132 rfl (lv_at hl 2 rfl) ?_
                refine lv_iadd hx hb dX4_rename_133 ?_
                refine lv_aload_n hx hb dX4_rename_134 rfl (lv_at hl 0 rfl) ?_
                refine lv_iload hx hb dX4_rename_135 (lv_at hl 4 rfl) ?_
                refine lv_iload_n hx hb dX4_rename_137 rfl (lv_at hl 1 rfl) ?_
                obtain ⟨v12, hq138, hf⟩ := obw hf
                refine g_calli (va_runV (As := [.int x4_95, .int p1]) (rest := [.int (((6 * x4_95) + p2)), .ref (κ 1)]) S (met_X4_to l D cI cII κ hκ σ_95 x4_95 p1 v12 hq138) (cwV 2 S.2.2.2.2 gX4_rename_X4_to rfl rfl rfl (by decide +kernel) ⟨Nat.le_of_ble_eq_true rfl, Nat.le_of_ble_eq_true rfl⟩) (g_preV (N := 12) (T := TX4) hK hP (Nat.le_refl _) (by decide) rfl rfl) rfl rfl hl.1 rfl (lv_room (Nat.le_of_ble_eq_true rfl)) dX4_rename_138 ⟨Nat.le_of_ble_eq_true rfl, Nat.le_of_ble_eq_true rfl⟩) (Nat.le_refl _) hκ hA hP hS (fun j h1 h2 => absurd h2 (Nat.not_lt.mpr h1)) (fun H locs hP hS => ?_)
                obtain ⟨σ13, hσ13, hf⟩ := obw hf
                refine g_ast (a := 1) (len := 72) (f' := (mC cI cII κ σ13)) S hK hP hκ hA hS (by decide) (mC_arr (by decide) rfl) hσ13 (fun j _ => mC_as hσ13 (by decide) rfl j) dX4_rename_141 (fun H locs hP hS => ?_)
                refine lv_aload_n hx hb dX4_rename_142 rfl (lv_at hl 0 rfl) ?_
                refine g_get (q := 0) (ci := 4) (k := 2) (ref := RX4) (C := RX4) (T := TX4) (N := 12) (index := 13) (v := .ref (κ 1)) S hK hP hiX4 (by decide) rfl rfl (by decide) rfl (by decide +kernel) rfl dX4_rename_143 ?_
                refine lv_bipush (v := 6) hx hb dX4_rename_146 (by decide) ?_
                refine lv_iload hx hb dX4_rename_148 (lv_at hl 4 rfl) ?_
                refine lv_imul hx hb dX4_rename_150 ?_
                refine lv_iload_n hx hb dX4_rename_151 rfl (lv_at hl 1 rfl) ?_
                refine lv_iadd hx hb dX4_rename_152 ?_
                refine lv_iconst (v := -1) hx hb dX4_rename_153 (by decide) ?_
                obtain ⟨σ14, hσ14, hf⟩ := obw hf
                refine g_ast (a := 1) (len := 72) (f' := (mC cI cII κ σ14)) S hK hP hκ hA hS (by decide) (mC_arr (by decide) rfl) hσ14 (fun j _ => mC_as hσ14 (by decide) rfl j) dX4_rename_154 (fun H locs hP hS => ?_)
                exact J155 _ hf _ _ _ hP hS (lv_sub hl [0, 1, 2, 3, 4] rfl)
              · have hf := iteN c117 hf
                refine lv_goto (tgt := 155) hx hb dX4_rename_120 (by decide) ?_
                exact J155 _ hf _ _ _ hP hS (lv_sub hl [0, 1, 2, 3, 4] rfl)
        · have hf := iteF c87 hf
          refine lv_iconst (v := 0) hx hb dX4_rename_90 (by decide) ?_
          obtain ⟨h8, h9⟩ := Prod.mk.inj (Option.some.inj hf)
          subst h9
          exact g_iret S hr hlk hK hP hS h8 dX4_rename_91
      · have hf := iteF c36 hf
        refine lv_aload_n hx hb dX4_rename_39 rfl (lv_at hl 0 rfl) ?_
        refine lv_iload hx hb dX4_rename_40 (lv_at hl 4 rfl) ?_
        refine lv_iload_n hx hb dX4_rename_42 rfl (lv_at hl 1 rfl) ?_
        obtain ⟨v15, hq43, hf⟩ := obw hf
        refine g_calli (va_runV (As := [.int x4_30, .int p1]) (rest := []) S (met_X4_to l D cI cII κ hκ σ_30 x4_30 p1 v15 hq43) (cwV 2 S.2.2.2.2 gX4_rename_X4_to rfl rfl rfl (by decide +kernel) ⟨Nat.le_of_ble_eq_true rfl, Nat.le_of_ble_eq_true rfl⟩) (g_preV (N := 12) (T := TX4) hK hP (Nat.le_refl _) (by decide) rfl rfl) rfl rfl hl.1 rfl (lv_room (Nat.le_of_ble_eq_true rfl)) dX4_rename_43 ⟨Nat.le_of_ble_eq_true rfl, Nat.le_of_ble_eq_true rfl⟩) (Nat.le_refl _) hκ hA hP hS (fun j h1 h2 => absurd h2 (Nat.not_lt.mpr h1)) (fun H locs hP hS => ?_)
        refine lv_iconst (v := -1) hx hb dX4_rename_46 (by decide) ?_
        obtain ⟨K77, hK77, hf⟩ := letb_w hf
        have J77 : ∀ (y3_77 : Int32) (τ_77 : SX), K77 y3_77 τ_77 = some (r, σ') → ∀ (H : Heap) (locs : List Loc) (ls : Array Slot), va_P D vwCl (gw 5 κ (mC cI cII κ τ_77)) H → va_S (gA 5 κ) s.heap H locs → lv_has ls 5 [(0, .ref (κ 0)), (1, .int p1), (2, .int p2), (3, .int y3_77), (4, .int x4_30)] → W p l e ({ frames := 1, cells := 0, slots := 0, locals := 22 } : Room) s m args below meth c H locs 0 0 (MQ below (QI D cI cII 5 κ (mC cI cII κ σ') r) args s 0 0 (gA 5 κ)) (F0 m 77 ls []) := by
          intro y3_77 τ_77 hf H locs ls hP hS hl
          rw [hK77] at hf
          obtain ⟨v16, ev16, hf⟩ := letb_w hf
          refine lv_iinc (v := v16) (lv' := [(4, .int v16), (0, .ref (κ 0)), (1, .int p1), (2, .int p2), (3, .int y3_77)]) hx hb dX4_rename_77 hl (k := 4) rfl (by rw [ev16]; rfl) (by decide) rfl (fun ls hl => ?_)
          refine lv_goto (tgt := 30) hx hb dX4_rename_80 (by decide) ?_
          exact ih30 _ _ _ hf _ _ _ hP hS (lv_sub hl [1, 2, 3, 4, 0] rfl)
        refine lv_icmp_ne (tgt := 53) hx hb dX4_rename_47 (by decide) (fun c47 => ?_) (fun c47 => ?_)
        · have hf := iteT c47 hf
          obtain ⟨v17, ev17, hf⟩ := letb_w hf
          refine lv_iinc (v := v17) (lv' := [(3, .int v17), (0, .ref (κ 0)), (1, .int p1), (2, .int p2), (4, .int x4_30)]) hx hb dX4_rename_53 hl (k := 3) rfl (by rw [ev17]; rfl) (by decide) rfl (fun ls hl => ?_)
          refine lv_iload_n hx hb dX4_rename_56 rfl (lv_at hl 2 rfl) ?_
          refine lv_iload_n hx hb dX4_rename_57 rfl (lv_at hl 3 rfl) ?_
          refine lv_icmp_eq (tgt := 77) hx hb dX4_rename_58 (by decide) (fun c58 => ?_) (fun c58 => ?_)
          · have hf := iteT c58 hf
            exact J77 _ _ hf _ _ _ hP hS (lv_sub hl [1, 2, 3, 0, 4] rfl)
          · have hf := iteF c58 hf
            refine lv_aload_n hx hb dX4_rename_61 rfl (lv_at hl 1 rfl) ?_
            refine lv_iload hx hb dX4_rename_62 (lv_at hl 4 rfl) ?_
            refine lv_iload_n hx hb dX4_rename_64 rfl (lv_at hl 3 rfl) ?_
            obtain ⟨v18, hq65, hf⟩ := obw hf
            refine g_calli (va_runV (As := [.int x4_30, .int p2]) (rest := []) S (met_X4_to l D cI cII κ hκ σ_30 x4_30 p2 v18 hq65) (cwV 2 S.2.2.2.2 gX4_rename_X4_to rfl rfl rfl (by decide +kernel) ⟨Nat.le_of_ble_eq_true rfl, Nat.le_of_ble_eq_true rfl⟩) (g_preV (N := 12) (T := TX4) hK hP (Nat.le_refl _) (by decide) rfl rfl) rfl rfl hl.1 rfl (lv_room (Nat.le_of_ble_eq_true rfl)) dX4_rename_65 ⟨Nat.le_of_ble_eq_true rfl, Nat.le_of_ble_eq_true rfl⟩) (Nat.le_refl _) hκ hA hP hS (fun j h1 h2 => absurd h2 (Nat.not_lt.mpr h1)) (fun H locs hP hS => ?_)
            refine lv_iconst (v := -1) hx hb dX4_rename_68 (by decide) ?_
            refine lv_icmp_eq (tgt := 77) hx hb dX4_rename_69 (by decide) (fun c69 => ?_) (fun c69 => ?_)
            · have hf := iteT c69 hf
              exact J77 _ _ hf _ _ _ hP hS (lv_sub hl [1, 2, 3, 0, 4] rfl)
            · have hf := iteF c69 hf
              refine lv_aload_n hx hb dX4_rename_72 rfl (lv_at hl 1 rfl) ?_
              refine lv_iconst (v := 2) hx hb dX4_rename_73 (by decide) ?_
              obtain ⟨σ19, eσ19, hf⟩ := letb_w hf
              refine g_put (q := 0) (ci := 4) (k := 0) (ref := RX4) (C := RX4) (T := TX4) (N := 12) (index := 26) (ty := .int) (f' := (mC cI cII κ σ19)) S hK hP hκ hA hS hiX4 tyX4_ok nmX4 (by decide) rfl rfl (by decide) rfl (by decide +kernel) rfl (by decide +kernel) rfl rfl (Nat.le_of_ble_eq_true rfl) (fun j _ => by rw [eσ19]; exact mC_p0 j) dX4_rename_74 (fun H locs hP hS => ?_)
              exact J77 _ _ hf _ _ _ hP hS (lv_sub hl [1, 2, 3, 0, 4] rfl)
        · have hf := iteN c47 hf
          refine lv_goto (tgt := 77) hx hb dX4_rename_50 (by decide) ?_
          exact J77 _ _ hf _ _ _ hP hS (lv_sub hl [0, 1, 2, 3, 4] rfl)
    · have hf := iteN c16 hf
      exact J19 _ hf _ _ _ hP hS (lv_sub hl [0] rfl)

set_option maxRecDepth 100000 in
set_option maxHeartbeats 4000000 in
theorem met_X4_stateCount (l : Launch) (D : va_G) (cI cII : ClassId) (κ : Nat → Nat) (hκ : Inj 5 κ) (σ : SX)  (r : Int32) (σ' : SX) (hf : fn_X4_stateCount σ  = some (r, σ')) : Met l yX4_stateCount wsX4_stateCount ({ frames := 0, cells := 0, slots := 0, locals := 0 } : Room) (va_Pc [.ref (κ 0)] (mP D cI cII κ σ)) (QI D cI cII 5 κ (mC cI cII κ σ') r) 0 0 (gA 5 κ) := by
  refine g_enter (cc := cX4_stateCount) (maxL := 1) (ret := (some .int)) (by decide) rfl (Nat.le_of_ble_eq_true rfl) ?_
  intro p e s m args below meth c ls S hr hlk _ hB hl
  have S : CallFix p m c cX4_stateCount 1 s args wsX4_stateCount RX4 := S
  obtain ⟨hP, hK⟩ := hB
  have hl : lv_has ls 1 [(0, .ref (κ 0))] := hl
  have hS : va_S (gA 5 κ) s.heap s.heap [] := va_S.rf
  have hA : ∀ k, k < 5 → gA 5 κ (κ k) := gA_in
  obtain ⟨hx, hb, hml, hown, hts⟩ := id S
  have hiX4 : ∀ w ∈ u_ws RX4 TX4 12, w ∈ wsX4_stateCount := by decide +kernel
  unfold fn_X4_stateCount at hf
  refine lv_aload_n hx hb dX4_stateCount_0 rfl (lv_at hl 0 rfl) ?_
  refine lv_iconst (v := 0) hx hb dX4_stateCount_1 (by decide) ?_
  obtain ⟨σ1, eσ1, hf⟩ := letb_w hf
  refine g_put (q := 0) (ci := 4) (k := 0) (ref := RX4) (C := RX4) (T := TX4) (N := 12) (index := 26) (ty := .int) (f' := (mC cI cII κ σ1)) S hK hP hκ hA hS hiX4 tyX4_ok nmX4 (by decide) rfl rfl (by decide) rfl (by decide +kernel) rfl (by decide +kernel) rfl rfl (Nat.le_of_ble_eq_true rfl) (fun j _ => by rw [eσ1]; exact mC_p0 j) dX4_stateCount_2 (fun H locs hP hS => ?_)
  refine lv_aload_n hx hb dX4_stateCount_5 rfl (lv_at hl 0 rfl) ?_
  refine g_get (q := 0) (ci := 4) (k := 1) (ref := RX4) (C := RX4) (T := TX4) (N := 12) (index := 9) (v := .int ((σ1.1 1))) S hK hP hiX4 (by decide) rfl rfl (by decide) rfl (by decide +kernel) rfl dX4_stateCount_6 ?_
  obtain ⟨h8, h9⟩ := Prod.mk.inj (Option.some.inj hf)
  subst h9
  exact g_iret S hr hlk hK hP hS h8 dX4_stateCount_9

set_option maxRecDepth 100000 in
set_option maxHeartbeats 4000000 in
theorem met_X4_target (l : Launch) (D : va_G) (cI cII : ClassId) (κ : Nat → Nat) (hκ : Inj 5 κ) (σ : SX) (p1 : Int32) (p2 : Int32) (r : Int32) (σ' : SX) (hf : fn_X4_target σ p1 p2 = some (r, σ')) : Met l yX4_target wsX4_target ({ frames := 1, cells := 0, slots := 0, locals := 22 } : Room) (va_Pc [.ref (κ 0), .int p1, .int p2] (mP D cI cII κ σ)) (QI D cI cII 5 κ (mC cI cII κ σ') r) 0 0 (gA 5 κ) := by
  refine g_enter (cc := cX4_target) (maxL := 3) (ret := (some .int)) (by decide) rfl (Nat.le_of_ble_eq_true rfl) ?_
  intro p e s m args below meth c ls S hr hlk _ hB hl
  have S : CallFix p m c cX4_target 3 s args wsX4_target RX4 := S
  obtain ⟨hP, hK⟩ := hB
  have hl : lv_has ls 3 [(0, .ref (κ 0)), (1, .int p1), (2, .int p2)] := hl
  have hS : va_S (gA 5 κ) s.heap s.heap [] := va_S.rf
  have hA : ∀ k, k < 5 → gA 5 κ (κ k) := gA_in
  obtain ⟨hx, hb, hml, hown, hts⟩ := id S
  have hiX4 : ∀ w ∈ u_ws RX4 TX4 12, w ∈ wsX4_target := by decide +kernel
  unfold fn_X4_target at hf
  refine lv_aload_n hx hb dX4_target_0 rfl (lv_at hl 0 rfl) ?_
  refine lv_iconst (v := 0) hx hb dX4_target_1 (by decide) ?_
  obtain ⟨σ1, eσ1, hf⟩ := letb_w hf
  refine g_put (q := 0) (ci := 4) (k := 0) (ref := RX4) (C := RX4) (T := TX4) (N := 12) (index := 26) (ty := .int) (f' := (mC cI cII κ σ1)) S hK hP hκ hA hS hiX4 tyX4_ok nmX4 (by decide) rfl rfl (by decide) rfl (by decide +kernel) rfl (by decide +kernel) rfl rfl (Nat.le_of_ble_eq_true rfl) (fun j _ => by rw [eσ1]; exact mC_p0 j) dX4_target_2 (fun H locs hP hS => ?_)
  refine lv_aload_n hx hb dX4_target_5 rfl (lv_at hl 0 rfl) ?_
  refine lv_iload_n hx hb dX4_target_6 rfl (lv_at hl 1 rfl) ?_
  obtain ⟨v2, hq7, hf⟩ := obw hf
  refine g_calli (va_runV (As := [.int p1]) (rest := []) S (met_X4_isState l D cI cII κ hκ σ1 p1 v2 hq7) (cwV 1 S.2.2.2.2 gX4_target_X4_isState rfl rfl rfl (by decide +kernel) ⟨Nat.le_of_ble_eq_true rfl, Nat.le_of_ble_eq_true rfl⟩) (g_preV (N := 12) (T := TX4) hK hP (Nat.le_refl _) (by decide) rfl rfl) rfl rfl hl.1 rfl (lv_room (Nat.le_of_ble_eq_true rfl)) dX4_target_7 ⟨Nat.le_of_ble_eq_true rfl, Nat.le_of_ble_eq_true rfl⟩) (Nat.le_refl _) hκ hA hP hS (fun j h1 h2 => absurd h2 (Nat.not_lt.mpr h1)) (fun H locs hP hS => ?_)
  obtain ⟨K29, hK29, hf⟩ := letb_w hf
  have J29 : ∀ (_u : Unit), K29 _u = some (r, σ') → ∀ (H : Heap) (locs : List Loc) (ls : Array Slot), va_P D vwCl (gw 5 κ (mC cI cII κ σ1)) H → va_S (gA 5 κ) s.heap H locs → lv_has ls 3 [(0, .ref (κ 0))] → W p l e ({ frames := 1, cells := 0, slots := 0, locals := 22 } : Room) s m args below meth c H locs 0 0 (MQ below (QI D cI cII 5 κ (mC cI cII κ σ') r) args s 0 0 (gA 5 κ)) (F0 m 29 ls []) := by
    intro _u hf H locs ls hP hS hl
    rw [hK29] at hf
    refine lv_aload_n hx hb dX4_target_29 rfl (lv_at hl 0 rfl) ?_
    refine lv_iconst (v := 1) hx hb dX4_target_30 (by decide) ?_
    obtain ⟨v4, σ3, hq31, hf⟩ := bind2_w hf
    refine g_calli (va_runV (As := [.int 1]) (rest := []) S (met_X4_fail l D cI cII κ hκ σ1 1 v4 σ3 hq31) (cwV 1 S.2.2.2.2 gX4_target_X4_fail rfl rfl rfl (by decide +kernel) ⟨Nat.le_of_ble_eq_true rfl, Nat.le_of_ble_eq_true rfl⟩) (g_preV (N := 12) (T := TX4) hK hP (Nat.le_refl _) (by decide) rfl rfl) rfl rfl hl.1 rfl (lv_room (Nat.le_of_ble_eq_true rfl)) dX4_target_31 ⟨Nat.le_of_ble_eq_true rfl, Nat.le_of_ble_eq_true rfl⟩) (Nat.le_refl _) hκ hA hP hS (fun j h1 h2 => absurd h2 (Nat.not_lt.mpr h1)) (fun H locs hP hS => ?_)
    obtain ⟨h8, h9⟩ := Prod.mk.inj (Option.some.inj hf)
    subst h9
    exact g_iret S hr hlk hK hP hS h8 dX4_target_34
  refine lv_if_eq (tgt := 29) hx hb dX4_target_10 (by decide) (fun c10 => ?_) (fun c10 => ?_)
  · have hf := iteT c10 hf
    exact J29 _ hf _ _ _ hP hS (lv_sub hl [0] rfl)
  · have hf := iteF c10 hf
    refine lv_iload_n hx hb dX4_target_13 rfl (lv_at hl 2 rfl) ?_
    obtain ⟨v5, hq14, hf⟩ := obw hf
    refine g_calli (va_runS (As := [.int p2]) (rest := []) S (met_X4_isLabel l D cI cII κ hκ σ1 p2 v5 hq14) (va_cwS 1 S.2.2.2.2 gX4_target_X4_isLabel rfl rfl rfl (by decide +kernel) ⟨Nat.le_of_ble_eq_true rfl, Nat.le_of_ble_eq_true rfl⟩) (g_preS hK hP (Nat.le_refl _)) rfl rfl hl.1 rfl (lv_room (Nat.le_of_ble_eq_true rfl)) dX4_target_14 ⟨Nat.le_of_ble_eq_true rfl, Nat.le_of_ble_eq_true rfl⟩) (Nat.le_refl _) hκ hA hP hS (fun j h1 h2 => absurd h2 (Nat.not_lt.mpr h1)) (fun H locs hP hS => ?_)
    refine lv_if_eq (tgt := 29) hx hb dX4_target_17 (by decide) (fun c17 => ?_) (fun c17 => ?_)
    · have hf := iteT c17 hf
      exact J29 _ hf _ _ _ hP hS (lv_sub hl [0] rfl)
    · have hf := iteF c17 hf
      refine lv_aload_n hx hb dX4_target_20 rfl (lv_at hl 0 rfl) ?_
      refine lv_iload_n hx hb dX4_target_21 rfl (lv_at hl 1 rfl) ?_
      refine lv_iload_n hx hb dX4_target_22 rfl (lv_at hl 2 rfl) ?_
      obtain ⟨v6, hq23, hf⟩ := obw hf
      refine g_calli (va_runV (As := [.int p1, .int p2]) (rest := []) S (met_X4_to l D cI cII κ hκ σ1 p1 p2 v6 hq23) (cwV 2 S.2.2.2.2 gX4_target_X4_to rfl rfl rfl (by decide +kernel) ⟨Nat.le_of_ble_eq_true rfl, Nat.le_of_ble_eq_true rfl⟩) (g_preV (N := 12) (T := TX4) hK hP (Nat.le_refl _) (by decide) rfl rfl) rfl rfl hl.1 rfl (lv_room (Nat.le_of_ble_eq_true rfl)) dX4_target_23 ⟨Nat.le_of_ble_eq_true rfl, Nat.le_of_ble_eq_true rfl⟩) (Nat.le_refl _) hκ hA hP hS (fun j h1 h2 => absurd h2 (Nat.not_lt.mpr h1)) (fun H locs hP hS => ?_)
      refine lv_goto (tgt := 34) hx hb dX4_target_26 (by decide) ?_
      obtain ⟨h8, h9⟩ := Prod.mk.inj (Option.some.inj hf)
      subst h9
      exact g_iret S hr hlk hK hP hS h8 dX4_target_34

set_option maxRecDepth 100000 in
set_option maxHeartbeats 4000000 in
theorem met_X4_enabled (l : Launch) (D : va_G) (cI cII : ClassId) (κ : Nat → Nat) (hκ : Inj 5 κ) (σ : SX) (p1 : Int32) (r : Int32) (σ' : SX) (hf : fn_X4_enabled σ p1 = some (r, σ')) : Met l yX4_enabled wsX4_enabled ({ frames := 1, cells := 0, slots := 0, locals := 22 } : Room) (va_Pc [.ref (κ 0), .int p1] (mP D cI cII κ σ)) (QI D cI cII 5 κ (mC cI cII κ σ') r) 0 0 (gA 5 κ) := by
  refine g_enter (cc := cX4_enabled) (maxL := 4) (ret := (some .int)) (by decide) rfl (Nat.le_of_ble_eq_true rfl) ?_
  intro p e s m args below meth c ls S hr hlk _ hB hl
  have S : CallFix p m c cX4_enabled 4 s args wsX4_enabled RX4 := S
  obtain ⟨hP, hK⟩ := hB
  have hl : lv_has ls 4 [(0, .ref (κ 0)), (1, .int p1)] := hl
  have hS : va_S (gA 5 κ) s.heap s.heap [] := va_S.rf
  have hA : ∀ k, k < 5 → gA 5 κ (κ k) := gA_in
  obtain ⟨hx, hb, hml, hown, hts⟩ := id S
  have hiX4 : ∀ w ∈ u_ws RX4 TX4 12, w ∈ wsX4_enabled := by decide +kernel
  unfold fn_X4_enabled at hf
  refine lv_aload_n hx hb dX4_enabled_0 rfl (lv_at hl 0 rfl) ?_
  refine lv_iconst (v := 0) hx hb dX4_enabled_1 (by decide) ?_
  obtain ⟨σ1, eσ1, hf⟩ := letb_w hf
  refine g_put (q := 0) (ci := 4) (k := 0) (ref := RX4) (C := RX4) (T := TX4) (N := 12) (index := 26) (ty := .int) (f' := (mC cI cII κ σ1)) S hK hP hκ hA hS hiX4 tyX4_ok nmX4 (by decide) rfl rfl (by decide) rfl (by decide +kernel) rfl (by decide +kernel) rfl rfl (Nat.le_of_ble_eq_true rfl) (fun j _ => by rw [eσ1]; exact mC_p0 j) dX4_enabled_2 (fun H locs hP hS => ?_)
  refine lv_aload_n hx hb dX4_enabled_5 rfl (lv_at hl 0 rfl) ?_
  refine lv_iload_n hx hb dX4_enabled_6 rfl (lv_at hl 1 rfl) ?_
  obtain ⟨v2, hq7, hf⟩ := obw hf
  refine g_calli (va_runV (As := [.int p1]) (rest := []) S (met_X4_isState l D cI cII κ hκ σ1 p1 v2 hq7) (cwV 1 S.2.2.2.2 gX4_enabled_X4_isState rfl rfl rfl (by decide +kernel) ⟨Nat.le_of_ble_eq_true rfl, Nat.le_of_ble_eq_true rfl⟩) (g_preV (N := 12) (T := TX4) hK hP (Nat.le_refl _) (by decide) rfl rfl) rfl rfl hl.1 rfl (lv_room (Nat.le_of_ble_eq_true rfl)) dX4_enabled_7 ⟨Nat.le_of_ble_eq_true rfl, Nat.le_of_ble_eq_true rfl⟩) (Nat.le_refl _) hκ hA hP hS (fun j h1 h2 => absurd h2 (Nat.not_lt.mpr h1)) (fun H locs hP hS => ?_)
  refine lv_if_ne (tgt := 19) hx hb dX4_enabled_10 (by decide) (fun c10 => ?_) (fun c10 => ?_)
  · have hf := iteT c10 hf
    refine lv_iconst (v := 0) hx hb dX4_enabled_19 (by decide) ?_
    obtain ⟨v3, ev3, hf⟩ := letb_w hf
    refine lv_nmi ev3 ?_
    refine lv_istore_n (lv' := [(2, .int v3), (0, .ref (κ 0)), (1, .int p1)]) hx hb dX4_enabled_20 rfl hl (by decide) rfl (fun ls hl => ?_)
    refine lv_iconst (v := 0) hx hb dX4_enabled_21 (by decide) ?_
    obtain ⟨v4, ev4, hf⟩ := letb_w hf
    refine lv_nmi ev4 ?_
    refine lv_istore_n (lv' := [(3, .int v4), (2, .int v3), (0, .ref (κ 0)), (1, .int p1)]) hx hb dX4_enabled_22 rfl hl (by decide) rfl (fun ls hl => ?_)
    refine loopF_w (P := fun (g : Int32 → Int32 → Option (Int32 × SX)) => ∀ (x2_23 : Int32) (x3_23 : Int32), g x2_23 x3_23 = some (r, σ') → ∀ (H : Heap) (locs : List Loc) (ls : Array Slot), va_P D vwCl (gw 5 κ (mC cI cII κ σ1)) H → va_S (gA 5 κ) s.heap H locs → lv_has ls 4 [(0, .ref (κ 0)), (1, .int p1), (2, .int x2_23), (3, .int x3_23)] → W p l e ({ frames := 1, cells := 0, slots := 0, locals := 22 } : Room) s m args below meth c H locs 0 0 (MQ below (QI D cI cII 5 κ (mC cI cII κ σ') r) args s 0 0 (gA 5 κ)) (F0 m 23 ls [])) (fun _ _ h => by simp at h) ?_ FU _ _ hf _ _ _ hP hS (lv_sub hl [2, 3, 1, 0] rfl)
    intro rec23 ih23 x2_23 x3_23 hf H locs ls hP hS hl
    unfold bd_X4_enabled_23 at hf
    refine lv_iload_n hx hb dX4_enabled_23 rfl (lv_at hl 3 rfl) ?_
    refine lv_bipush (v := 6) hx hb dX4_enabled_24 (by decide) ?_
    refine lv_icmp_ge (tgt := 51) hx hb dX4_enabled_26 (by decide) (fun c26 => ?_) (fun c26 => ?_)
    · have hf := iteT c26 hf
      refine lv_iload_n hx hb dX4_enabled_51 rfl (lv_at hl 2 rfl) ?_
      obtain ⟨h8, h9⟩ := Prod.mk.inj (Option.some.inj hf)
      subst h9
      exact g_iret S hr hlk hK hP hS h8 dX4_enabled_52
    · have hf := iteF c26 hf
      refine lv_aload_n hx hb dX4_enabled_29 rfl (lv_at hl 0 rfl) ?_
      refine lv_iload_n hx hb dX4_enabled_30 rfl (lv_at hl 1 rfl) ?_
      refine lv_iload_n hx hb dX4_enabled_31 rfl (lv_at hl 3 rfl) ?_
      obtain ⟨v5, hq32, hf⟩ := obw hf
      refine g_calli (va_runV (As := [.int p1, .int x3_23]) (rest := []) S (met_X4_to l D cI cII κ hκ σ1 p1 x3_23 v5 hq32) (cwV 2 S.2.2.2.2 gX4_enabled_X4_to rfl rfl rfl (by decide +kernel) ⟨Nat.le_of_ble_eq_true rfl, Nat.le_of_ble_eq_true rfl⟩) (g_preV (N := 12) (T := TX4) hK hP (Nat.le_refl _) (by decide) rfl rfl) rfl rfl hl.1 rfl (lv_room (Nat.le_of_ble_eq_true rfl)) dX4_enabled_32 ⟨Nat.le_of_ble_eq_true rfl, Nat.le_of_ble_eq_true rfl⟩) (Nat.le_refl _) hκ hA hP hS (fun j h1 h2 => absurd h2 (Nat.not_lt.mpr h1)) (fun H locs hP hS => ?_)
      refine lv_iconst (v := -1) hx hb dX4_enabled_35 (by decide) ?_
      obtain ⟨K45, hK45, hf⟩ := letb_w hf
      have J45 : ∀ (y2_45 : Int32), K45 y2_45 = some (r, σ') → ∀ (H : Heap) (locs : List Loc) (ls : Array Slot), va_P D vwCl (gw 5 κ (mC cI cII κ σ1)) H → va_S (gA 5 κ) s.heap H locs → lv_has ls 4 [(0, .ref (κ 0)), (1, .int p1), (2, .int y2_45), (3, .int x3_23)] → W p l e ({ frames := 1, cells := 0, slots := 0, locals := 22 } : Room) s m args below meth c H locs 0 0 (MQ below (QI D cI cII 5 κ (mC cI cII κ σ') r) args s 0 0 (gA 5 κ)) (F0 m 45 ls []) := by
        intro y2_45 hf H locs ls hP hS hl
        rw [hK45] at hf
        obtain ⟨v6, ev6, hf⟩ := letb_w hf
        refine lv_iinc (v := v6) (lv' := [(3, .int v6), (0, .ref (κ 0)), (1, .int p1), (2, .int y2_45)]) hx hb dX4_enabled_45 hl (k := 3) rfl (by rw [ev6]; rfl) (by decide) rfl (fun ls hl => ?_)
        refine lv_goto (tgt := 23) hx hb dX4_enabled_48 (by decide) ?_
        exact ih23 _ _ hf _ _ _ hP hS (lv_sub hl [1, 2, 3, 0] rfl)
      refine lv_icmp_eq (tgt := 45) hx hb dX4_enabled_36 (by decide) (fun c36 => ?_) (fun c36 => ?_)
      · have hf := iteT c36 hf
        exact J45 _ hf _ _ _ hP hS (lv_sub hl [0, 1, 2, 3] rfl)
      · have hf := iteF c36 hf
        refine lv_iload_n hx hb dX4_enabled_39 rfl (lv_at hl 2 rfl) ?_
        refine lv_iconst (v := 1) hx hb dX4_enabled_40 (by decide) ?_
        refine lv_iload_n hx hb dX4_enabled_41 rfl (lv_at hl 3 rfl) ?_
        refine lv_ishl hx hb dX4_enabled_42 ?_
        refine lv_ior hx hb dX4_enabled_43 ?_
        obtain ⟨v7, ev7, hf⟩ := letb_w hf
        refine lv_nmi ev7 ?_
        refine lv_istore_n (lv' := [(2, .int v7), (0, .ref (κ 0)), (1, .int p1), (3, .int x3_23)]) hx hb dX4_enabled_44 rfl hl (by decide) rfl (fun ls hl => ?_)
        exact J45 _ hf _ _ _ hP hS (lv_sub hl [1, 2, 0, 3] rfl)
  · have hf := iteN c10 hf
    refine lv_aload_n hx hb dX4_enabled_13 rfl (lv_at hl 0 rfl) ?_
    refine lv_iconst (v := 1) hx hb dX4_enabled_14 (by decide) ?_
    obtain ⟨v9, σ8, hq15, hf⟩ := bind2_w hf
    refine g_calli (va_runV (As := [.int 1]) (rest := []) S (met_X4_fail l D cI cII κ hκ σ1 1 v9 σ8 hq15) (cwV 1 S.2.2.2.2 gX4_enabled_X4_fail rfl rfl rfl (by decide +kernel) ⟨Nat.le_of_ble_eq_true rfl, Nat.le_of_ble_eq_true rfl⟩) (g_preV (N := 12) (T := TX4) hK hP (Nat.le_refl _) (by decide) rfl rfl) rfl rfl hl.1 rfl (lv_room (Nat.le_of_ble_eq_true rfl)) dX4_enabled_15 ⟨Nat.le_of_ble_eq_true rfl, Nat.le_of_ble_eq_true rfl⟩) (Nat.le_refl _) hκ hA hP hS (fun j h1 h2 => absurd h2 (Nat.not_lt.mpr h1)) (fun H locs hP hS => ?_)
    obtain ⟨h8, h9⟩ := Prod.mk.inj (Option.some.inj hf)
    subst h9
    exact g_iret S hr hlk hK hP hS h8 dX4_enabled_18

set_option maxRecDepth 100000 in
set_option maxHeartbeats 4000000 in
theorem met_X4_goOn (l : Launch) (D : va_G) (cI cII : ClassId) (κ : Nat → Nat) (hκ : Inj 5 κ) (σ : SX) (p1 : Int32) (r : Int32) (hf : fn_X4_goOn σ p1 = some r) : Met l yX4_goOn wsX4_goOn ({ frames := 1, cells := 0, slots := 0, locals := 22 } : Room) (va_Pc [.ref (κ 0), .int p1] (mP D cI cII κ σ)) (QI D cI cII 5 κ (mC cI cII κ σ) r) 0 0 (gA 5 κ) := by
  refine g_enter (cc := cX4_goOn) (maxL := 5) (ret := (some .int)) (by decide) rfl (Nat.le_of_ble_eq_true rfl) ?_
  intro p e s m args below meth c ls S hr hlk _ hB hl
  have S : CallFix p m c cX4_goOn 5 s args wsX4_goOn RX4 := S
  obtain ⟨hP, hK⟩ := hB
  have hl : lv_has ls 5 [(0, .ref (κ 0)), (1, .int p1)] := hl
  have hS : va_S (gA 5 κ) s.heap s.heap [] := va_S.rf
  have hA : ∀ k, k < 5 → gA 5 κ (κ k) := gA_in
  obtain ⟨hx, hb, hml, hown, hts⟩ := id S
  have hiX4 : ∀ w ∈ u_ws RX4 TX4 12, w ∈ wsX4_goOn := by decide +kernel
  unfold fn_X4_goOn at hf
  refine lv_iload_n hx hb dX4_goOn_0 rfl (lv_at hl 1 rfl) ?_
  obtain ⟨v1, ev1, hf⟩ := letb_w hf
  refine lv_nmi ev1 ?_
  refine lv_istore_n (lv' := [(2, .int v1), (0, .ref (κ 0)), (1, .int p1)]) hx hb dX4_goOn_1 rfl hl (by decide) rfl (fun ls hl => ?_)
  refine lv_iconst (v := 0) hx hb dX4_goOn_2 (by decide) ?_
  obtain ⟨v2, ev2, hf⟩ := letb_w hf
  refine lv_nmi ev2 ?_
  refine lv_istore_n (lv' := [(3, .int v2), (2, .int v1), (0, .ref (κ 0)), (1, .int p1)]) hx hb dX4_goOn_3 rfl hl (by decide) rfl (fun ls hl => ?_)
  refine loopF_w (P := fun (g : Int32 → Int32 → Option (Int32)) => ∀ (x2_4 : Int32) (x3_4 : Int32), g x2_4 x3_4 = some r → ∀ (H : Heap) (locs : List Loc) (ls : Array Slot), va_P D vwCl (gw 5 κ (mC cI cII κ σ)) H → va_S (gA 5 κ) s.heap H locs → lv_has ls 5 [(0, .ref (κ 0)), (1, .int p1), (2, .int x2_4), (3, .int x3_4)] → W p l e ({ frames := 1, cells := 0, slots := 0, locals := 22 } : Room) s m args below meth c H locs 0 0 (MQ below (QI D cI cII 5 κ (mC cI cII κ σ) r) args s 0 0 (gA 5 κ)) (F0 m 4 ls [])) (fun _ _ h => by simp at h) ?_ FU _ _ hf _ _ _ hP hS (lv_sub hl [2, 3, 1, 0] rfl)
  intro rec4 ih4 x2_4 x3_4 hf H locs ls hP hS hl
  unfold bd_X4_goOn_4 at hf
  refine lv_iload_n hx hb dX4_goOn_4 rfl (lv_at hl 3 rfl) ?_
  refine lv_aload_n hx hb dX4_goOn_5 rfl (lv_at hl 0 rfl) ?_
  refine g_get (q := 0) (ci := 4) (k := 1) (ref := RX4) (C := RX4) (T := TX4) (N := 12) (index := 9) (v := .int ((σ.1 1))) S hK hP hiX4 (by decide) rfl rfl (by decide) rfl (by decide +kernel) rfl dX4_goOn_6 ?_
  refine lv_icmp_ge (tgt := 65) hx hb dX4_goOn_9 (by decide) (fun c9 => ?_) (fun c9 => ?_)
  · have hf := iteT c9 hf
    refine lv_iload_n hx hb dX4_goOn_65 rfl (lv_at hl 2 rfl) ?_
    exact g_iret S hr hlk hK hP hS (Option.some.inj hf) dX4_goOn_66
  · have hf := iteF c9 hf
    refine lv_iconst (v := 0) hx hb dX4_goOn_12 (by decide) ?_
    obtain ⟨v3, ev3, hf⟩ := letb_w hf
    refine lv_nmi ev3 ?_
    refine lv_istore (lv' := [(4, .int v3), (0, .ref (κ 0)), (1, .int p1), (2, .int x2_4), (3, .int x3_4)]) hx hb dX4_goOn_13 hl (by decide) rfl (fun ls hl => ?_)
    refine loopF_w (P := fun (g : Int32 → Int32 → Option (Int32)) => ∀ (x2_15 : Int32) (x4_15 : Int32), g x2_15 x4_15 = some r → ∀ (H : Heap) (locs : List Loc) (ls : Array Slot), va_P D vwCl (gw 5 κ (mC cI cII κ σ)) H → va_S (gA 5 κ) s.heap H locs → lv_has ls 5 [(0, .ref (κ 0)), (1, .int p1), (2, .int x2_15), (3, .int x3_4), (4, .int x4_15)] → W p l e ({ frames := 1, cells := 0, slots := 0, locals := 22 } : Room) s m args below meth c H locs 0 0 (MQ below (QI D cI cII 5 κ (mC cI cII κ σ) r) args s 0 0 (gA 5 κ)) (F0 m 15 ls [])) (fun _ _ h => by simp at h) ?_ FU _ _ hf _ _ _ hP hS (lv_sub hl [1, 2, 3, 4, 0] rfl)
    intro rec15 ih15 x2_15 x4_15 hf H locs ls hP hS hl
    unfold bd_X4_goOn_15 at hf
    refine lv_iload hx hb dX4_goOn_15 (lv_at hl 4 rfl) ?_
    refine lv_bipush (v := 6) hx hb dX4_goOn_17 (by decide) ?_
    refine lv_icmp_ge (tgt := 59) hx hb dX4_goOn_19 (by decide) (fun c19 => ?_) (fun c19 => ?_)
    · have hf := iteT c19 hf
      obtain ⟨v4, ev4, hf⟩ := letb_w hf
      refine lv_iinc (v := v4) (lv' := [(3, .int v4), (0, .ref (κ 0)), (1, .int p1), (2, .int x2_15), (4, .int x4_15)]) hx hb dX4_goOn_59 hl (k := 3) rfl (by rw [ev4]; rfl) (by decide) rfl (fun ls hl => ?_)
      refine lv_goto (tgt := 4) hx hb dX4_goOn_62 (by decide) ?_
      exact ih4 _ _ hf _ _ _ hP hS (lv_sub hl [1, 2, 3, 0] rfl)
    · have hf := iteF c19 hf
      refine lv_iload_n hx hb dX4_goOn_22 rfl (lv_at hl 1 rfl) ?_
      refine lv_iload_n hx hb dX4_goOn_23 rfl (lv_at hl 3 rfl) ?_
      obtain ⟨v5, hq24, hf⟩ := obw hf
      refine g_calli (va_runS (As := [.int p1, .int x3_4]) (rest := []) S (met_X4_has l D cI cII κ hκ σ p1 x3_4 v5 hq24) (va_cwS 2 S.2.2.2.2 gX4_goOn_X4_has rfl rfl rfl (by decide +kernel) ⟨Nat.le_of_ble_eq_true rfl, Nat.le_of_ble_eq_true rfl⟩) (g_preS hK hP (Nat.le_refl _)) rfl rfl hl.1 rfl (lv_room (Nat.le_of_ble_eq_true rfl)) dX4_goOn_24 ⟨Nat.le_of_ble_eq_true rfl, Nat.le_of_ble_eq_true rfl⟩) (Nat.le_refl _) hκ hA hP hS (fun j h1 h2 => absurd h2 (Nat.not_lt.mpr h1)) (fun H locs hP hS => ?_)
      obtain ⟨K53, hK53, hf⟩ := letb_w hf
      have J53 : ∀ (y2_53 : Int32), K53 y2_53 = some r → ∀ (H : Heap) (locs : List Loc) (ls : Array Slot), va_P D vwCl (gw 5 κ (mC cI cII κ σ)) H → va_S (gA 5 κ) s.heap H locs → lv_has ls 5 [(0, .ref (κ 0)), (1, .int p1), (2, .int y2_53), (3, .int x3_4), (4, .int x4_15)] → W p l e ({ frames := 1, cells := 0, slots := 0, locals := 22 } : Room) s m args below meth c H locs 0 0 (MQ below (QI D cI cII 5 κ (mC cI cII κ σ) r) args s 0 0 (gA 5 κ)) (F0 m 53 ls []) := by
        intro y2_53 hf H locs ls hP hS hl
        rw [hK53] at hf
        obtain ⟨v6, ev6, hf⟩ := letb_w hf
        refine lv_iinc (v := v6) (lv' := [(4, .int v6), (0, .ref (κ 0)), (1, .int p1), (2, .int y2_53), (3, .int x3_4)]) hx hb dX4_goOn_53 hl (k := 4) rfl (by rw [ev6]; rfl) (by decide) rfl (fun ls hl => ?_)
        refine lv_goto (tgt := 15) hx hb dX4_goOn_56 (by decide) ?_
        exact ih15 _ _ hf _ _ _ hP hS (lv_sub hl [1, 2, 3, 4, 0] rfl)
      refine lv_if_eq (tgt := 53) hx hb dX4_goOn_27 (by decide) (fun c27 => ?_) (fun c27 => ?_)
      · have hf := iteT c27 hf
        exact J53 _ hf _ _ _ hP hS (lv_sub hl [0, 1, 2, 3, 4] rfl)
      · have hf := iteF c27 hf
        refine lv_aload_n hx hb dX4_goOn_30 rfl (lv_at hl 0 rfl) ?_
        refine lv_iload_n hx hb dX4_goOn_31 rfl (lv_at hl 3 rfl) ?_
        refine lv_iload hx hb dX4_goOn_32 (lv_at hl 4 rfl) ?_
        obtain ⟨v7, hq34, hf⟩ := obw hf
        refine g_calli (va_runV (As := [.int x3_4, .int x4_15]) (rest := []) S (met_X4_to l D cI cII κ hκ σ x3_4 x4_15 v7 hq34) (cwV 2 S.2.2.2.2 gX4_goOn_X4_to rfl rfl rfl (by decide +kernel) ⟨Nat.le_of_ble_eq_true rfl, Nat.le_of_ble_eq_true rfl⟩) (g_preV (N := 12) (T := TX4) hK hP (Nat.le_refl _) (by decide) rfl rfl) rfl rfl hl.1 rfl (lv_room (Nat.le_of_ble_eq_true rfl)) dX4_goOn_34 ⟨Nat.le_of_ble_eq_true rfl, Nat.le_of_ble_eq_true rfl⟩) (Nat.le_refl _) hκ hA hP hS (fun j h1 h2 => absurd h2 (Nat.not_lt.mpr h1)) (fun H locs hP hS => ?_)
        refine lv_iconst (v := -1) hx hb dX4_goOn_37 (by decide) ?_
        refine lv_icmp_eq (tgt := 53) hx hb dX4_goOn_38 (by decide) (fun c38 => ?_) (fun c38 => ?_)
        · have hf := iteT c38 hf
          exact J53 _ hf _ _ _ hP hS (lv_sub hl [0, 1, 2, 3, 4] rfl)
        · have hf := iteF c38 hf
          refine lv_iload_n hx hb dX4_goOn_41 rfl (lv_at hl 2 rfl) ?_
          refine lv_iconst (v := 1) hx hb dX4_goOn_42 (by decide) ?_
          refine lv_aload_n hx hb dX4_goOn_43 rfl (lv_at hl 0 rfl) ?_
          refine lv_iload_n hx hb dX4_goOn_44 rfl (lv_at hl 3 rfl) ?_
          refine lv_iload hx hb dX4_goOn_45 (lv_at hl 4 rfl) ?_
          obtain ⟨v8, hq47, hf⟩ := obw hf
          refine g_calli (va_runV (As := [.int x3_4, .int x4_15]) (rest := [.int 1, .int x2_15]) S (met_X4_to l D cI cII κ hκ σ x3_4 x4_15 v8 hq47) (cwV 2 S.2.2.2.2 gX4_goOn_X4_to rfl rfl rfl (by decide +kernel) ⟨Nat.le_of_ble_eq_true rfl, Nat.le_of_ble_eq_true rfl⟩) (g_preV (N := 12) (T := TX4) hK hP (Nat.le_refl _) (by decide) rfl rfl) rfl rfl hl.1 rfl (lv_room (Nat.le_of_ble_eq_true rfl)) dX4_goOn_47 ⟨Nat.le_of_ble_eq_true rfl, Nat.le_of_ble_eq_true rfl⟩) (Nat.le_refl _) hκ hA hP hS (fun j h1 h2 => absurd h2 (Nat.not_lt.mpr h1)) (fun H locs hP hS => ?_)
          refine lv_ishl hx hb dX4_goOn_50 ?_
          refine lv_ior hx hb dX4_goOn_51 ?_
          obtain ⟨v9, ev9, hf⟩ := letb_w hf
          refine lv_nmi ev9 ?_
          refine lv_istore_n (lv' := [(2, .int v9), (0, .ref (κ 0)), (1, .int p1), (3, .int x3_4), (4, .int x4_15)]) hx hb dX4_goOn_52 rfl hl (by decide) rfl (fun ls hl => ?_)
          exact J53 _ hf _ _ _ hP hS (lv_sub hl [1, 2, 0, 3, 4] rfl)

set_option maxRecDepth 100000 in
set_option maxHeartbeats 4000000 in
theorem met_X4_reached (l : Launch) (D : va_G) (cI cII : ClassId) (κ : Nat → Nat) (hκ : Inj 5 κ) (σ : SX)  (r : Int32) (σ' : SX) (hf : fn_X4_reached σ  = some (r, σ')) : Met l yX4_reached wsX4_reached ({ frames := 2, cells := 0, slots := 0, locals := 46 } : Room) (va_Pc [.ref (κ 0)] (mP D cI cII κ σ)) (QI D cI cII 5 κ (mC cI cII κ σ') r) 0 0 (gA 5 κ) := by
  refine g_enter (cc := cX4_reached) (maxL := 2) (ret := (some .int)) (by decide) rfl (Nat.le_of_ble_eq_true rfl) ?_
  intro p e s m args below meth c ls S hr hlk _ hB hl
  have S : CallFix p m c cX4_reached 2 s args wsX4_reached RX4 := S
  obtain ⟨hP, hK⟩ := hB
  have hl : lv_has ls 2 [(0, .ref (κ 0))] := hl
  have hS : va_S (gA 5 κ) s.heap s.heap [] := va_S.rf
  have hA : ∀ k, k < 5 → gA 5 κ (κ k) := gA_in
  obtain ⟨hx, hb, hml, hown, hts⟩ := id S
  have hiX4 : ∀ w ∈ u_ws RX4 TX4 12, w ∈ wsX4_reached := by decide +kernel
  unfold fn_X4_reached at hf
  refine lv_aload_n hx hb dX4_reached_0 rfl (lv_at hl 0 rfl) ?_
  refine lv_iconst (v := 0) hx hb dX4_reached_1 (by decide) ?_
  obtain ⟨σ1, eσ1, hf⟩ := letb_w hf
  refine g_put (q := 0) (ci := 4) (k := 0) (ref := RX4) (C := RX4) (T := TX4) (N := 12) (index := 26) (ty := .int) (f' := (mC cI cII κ σ1)) S hK hP hκ hA hS hiX4 tyX4_ok nmX4 (by decide) rfl rfl (by decide) rfl (by decide +kernel) rfl (by decide +kernel) rfl rfl (Nat.le_of_ble_eq_true rfl) (fun j _ => by rw [eσ1]; exact mC_p0 j) dX4_reached_2 (fun H locs hP hS => ?_)
  refine lv_iconst (v := 1) hx hb dX4_reached_5 (by decide) ?_
  obtain ⟨v2, ev2, hf⟩ := letb_w hf
  refine lv_nmi ev2 ?_
  refine lv_istore_n (lv' := [(1, .int v2), (0, .ref (κ 0))]) hx hb dX4_reached_6 rfl hl (by decide) rfl (fun ls hl => ?_)
  refine loopF_w (P := fun (g : Int32 → Option (Int32 × SX)) => ∀ (x1_7 : Int32), g x1_7 = some (r, σ') → ∀ (H : Heap) (locs : List Loc) (ls : Array Slot), va_P D vwCl (gw 5 κ (mC cI cII κ σ1)) H → va_S (gA 5 κ) s.heap H locs → lv_has ls 2 [(0, .ref (κ 0)), (1, .int x1_7)] → W p l e ({ frames := 2, cells := 0, slots := 0, locals := 46 } : Room) s m args below meth c H locs 0 0 (MQ below (QI D cI cII 5 κ (mC cI cII κ σ') r) args s 0 0 (gA 5 κ)) (F0 m 7 ls [])) (fun _ h => by simp at h) ?_ FU _ hf _ _ _ hP hS (lv_sub hl [1, 0] rfl)
  intro rec7 ih7 x1_7 hf H locs ls hP hS hl
  unfold bd_X4_reached_7 at hf
  refine lv_aload_n hx hb dX4_reached_7 rfl (lv_at hl 0 rfl) ?_
  refine lv_iload_n hx hb dX4_reached_8 rfl (lv_at hl 1 rfl) ?_
  obtain ⟨v3, hq9, hf⟩ := obw hf
  refine g_calli (va_runV (As := [.int x1_7]) (rest := []) S (met_X4_goOn l D cI cII κ hκ σ1 x1_7 v3 hq9) (cwV 1 S.2.2.2.2 gX4_reached_X4_goOn rfl rfl rfl (by decide +kernel) ⟨Nat.le_of_ble_eq_true rfl, Nat.le_of_ble_eq_true rfl⟩) (g_preV (N := 12) (T := TX4) hK hP (Nat.le_refl _) (by decide) rfl rfl) rfl rfl hl.1 rfl (lv_room (Nat.le_of_ble_eq_true rfl)) dX4_reached_9 ⟨Nat.le_of_ble_eq_true rfl, Nat.le_of_ble_eq_true rfl⟩) (Nat.le_refl _) hκ hA hP hS (fun j h1 h2 => absurd h2 (Nat.not_lt.mpr h1)) (fun H locs hP hS => ?_)
  refine lv_iload_n hx hb dX4_reached_12 rfl (lv_at hl 1 rfl) ?_
  refine lv_icmp_eq (tgt := 25) hx hb dX4_reached_13 (by decide) (fun c13 => ?_) (fun c13 => ?_)
  · have hf := iteT c13 hf
    refine lv_iload_n hx hb dX4_reached_25 rfl (lv_at hl 1 rfl) ?_
    obtain ⟨h8, h9⟩ := Prod.mk.inj (Option.some.inj hf)
    subst h9
    exact g_iret S hr hlk hK hP hS h8 dX4_reached_26
  · have hf := iteF c13 hf
    refine lv_aload_n hx hb dX4_reached_16 rfl (lv_at hl 0 rfl) ?_
    refine lv_iload_n hx hb dX4_reached_17 rfl (lv_at hl 1 rfl) ?_
    obtain ⟨v4, hq18, hf⟩ := obw hf
    refine g_calli (va_runV (As := [.int x1_7]) (rest := []) S (met_X4_goOn l D cI cII κ hκ σ1 x1_7 v4 hq18) (cwV 1 S.2.2.2.2 gX4_reached_X4_goOn rfl rfl rfl (by decide +kernel) ⟨Nat.le_of_ble_eq_true rfl, Nat.le_of_ble_eq_true rfl⟩) (g_preV (N := 12) (T := TX4) hK hP (Nat.le_refl _) (by decide) rfl rfl) rfl rfl hl.1 rfl (lv_room (Nat.le_of_ble_eq_true rfl)) dX4_reached_18 ⟨Nat.le_of_ble_eq_true rfl, Nat.le_of_ble_eq_true rfl⟩) (Nat.le_refl _) hκ hA hP hS (fun j h1 h2 => absurd h2 (Nat.not_lt.mpr h1)) (fun H locs hP hS => ?_)
    obtain ⟨v5, ev5, hf⟩ := letb_w hf
    refine lv_nmi ev5 ?_
    refine lv_istore_n (lv' := [(1, .int v5), (0, .ref (κ 0))]) hx hb dX4_reached_21 rfl hl (by decide) rfl (fun ls hl => ?_)
    refine lv_goto (tgt := 7) hx hb dX4_reached_22 (by decide) ?_
    exact ih7 _ hf _ _ _ hP hS (lv_sub hl [1, 0] rfl)

set_option maxRecDepth 100000 in
set_option maxHeartbeats 4000000 in
theorem met_X4_distance (l : Launch) (D : va_G) (cI cII : ClassId) (κ : Nat → Nat) (hκ : Inj 5 κ) (σ : SX) (p1 : Int32) (r : Int32) (σ' : SX) (hf : fn_X4_distance σ p1 = some (r, σ')) : Met l yX4_distance wsX4_distance ({ frames := 2, cells := 0, slots := 0, locals := 46 } : Room) (va_Pc [.ref (κ 0), .int p1] (mP D cI cII κ σ)) (QI D cI cII 5 κ (mC cI cII κ σ') r) 0 0 (gA 5 κ) := by
  refine g_enter (cc := cX4_distance) (maxL := 4) (ret := (some .int)) (by decide) rfl (Nat.le_of_ble_eq_true rfl) ?_
  intro p e s m args below meth c ls S hr hlk _ hB hl
  have S : CallFix p m c cX4_distance 4 s args wsX4_distance RX4 := S
  obtain ⟨hP, hK⟩ := hB
  have hl : lv_has ls 4 [(0, .ref (κ 0)), (1, .int p1)] := hl
  have hS : va_S (gA 5 κ) s.heap s.heap [] := va_S.rf
  have hA : ∀ k, k < 5 → gA 5 κ (κ k) := gA_in
  obtain ⟨hx, hb, hml, hown, hts⟩ := id S
  have hiX4 : ∀ w ∈ u_ws RX4 TX4 12, w ∈ wsX4_distance := by decide +kernel
  unfold fn_X4_distance at hf
  refine lv_aload_n hx hb dX4_distance_0 rfl (lv_at hl 0 rfl) ?_
  refine lv_iconst (v := 0) hx hb dX4_distance_1 (by decide) ?_
  obtain ⟨σ1, eσ1, hf⟩ := letb_w hf
  refine g_put (q := 0) (ci := 4) (k := 0) (ref := RX4) (C := RX4) (T := TX4) (N := 12) (index := 26) (ty := .int) (f' := (mC cI cII κ σ1)) S hK hP hκ hA hS hiX4 tyX4_ok nmX4 (by decide) rfl rfl (by decide) rfl (by decide +kernel) rfl (by decide +kernel) rfl rfl (Nat.le_of_ble_eq_true rfl) (fun j _ => by rw [eσ1]; exact mC_p0 j) dX4_distance_2 (fun H locs hP hS => ?_)
  refine lv_aload_n hx hb dX4_distance_5 rfl (lv_at hl 0 rfl) ?_
  refine lv_iload_n hx hb dX4_distance_6 rfl (lv_at hl 1 rfl) ?_
  obtain ⟨v2, hq7, hf⟩ := obw hf
  refine g_calli (va_runV (As := [.int p1]) (rest := []) S (met_X4_isState l D cI cII κ hκ σ1 p1 v2 hq7) (cwV 1 S.2.2.2.2 gX4_distance_X4_isState rfl rfl rfl (by decide +kernel) ⟨Nat.le_of_ble_eq_true rfl, Nat.le_of_ble_eq_true rfl⟩) (g_preV (N := 12) (T := TX4) hK hP (Nat.le_refl _) (by decide) rfl rfl) rfl rfl hl.1 rfl (lv_room (Nat.le_of_ble_eq_true rfl)) dX4_distance_7 ⟨Nat.le_of_ble_eq_true rfl, Nat.le_of_ble_eq_true rfl⟩) (Nat.le_refl _) hκ hA hP hS (fun j h1 h2 => absurd h2 (Nat.not_lt.mpr h1)) (fun H locs hP hS => ?_)
  refine lv_if_ne (tgt := 19) hx hb dX4_distance_10 (by decide) (fun c10 => ?_) (fun c10 => ?_)
  · have hf := iteT c10 hf
    refine lv_iconst (v := 1) hx hb dX4_distance_19 (by decide) ?_
    obtain ⟨v3, ev3, hf⟩ := letb_w hf
    refine lv_nmi ev3 ?_
    refine lv_istore_n (lv' := [(2, .int v3), (0, .ref (κ 0)), (1, .int p1)]) hx hb dX4_distance_20 rfl hl (by decide) rfl (fun ls hl => ?_)
    refine lv_iconst (v := 0) hx hb dX4_distance_21 (by decide) ?_
    obtain ⟨v4, ev4, hf⟩ := letb_w hf
    refine lv_nmi ev4 ?_
    refine lv_istore_n (lv' := [(3, .int v4), (2, .int v3), (0, .ref (κ 0)), (1, .int p1)]) hx hb dX4_distance_22 rfl hl (by decide) rfl (fun ls hl => ?_)
    refine loopF_w (P := fun (g : Int32 → Int32 → Option (Int32 × SX)) => ∀ (x2_23 : Int32) (x3_23 : Int32), g x2_23 x3_23 = some (r, σ') → ∀ (H : Heap) (locs : List Loc) (ls : Array Slot), va_P D vwCl (gw 5 κ (mC cI cII κ σ1)) H → va_S (gA 5 κ) s.heap H locs → lv_has ls 4 [(0, .ref (κ 0)), (1, .int p1), (2, .int x2_23), (3, .int x3_23)] → W p l e ({ frames := 2, cells := 0, slots := 0, locals := 46 } : Room) s m args below meth c H locs 0 0 (MQ below (QI D cI cII 5 κ (mC cI cII κ σ') r) args s 0 0 (gA 5 κ)) (F0 m 23 ls [])) (fun _ _ h => by simp at h) ?_ FU _ _ hf _ _ _ hP hS (lv_sub hl [2, 3, 1, 0] rfl)
    intro rec23 ih23 x2_23 x3_23 hf H locs ls hP hS hl
    unfold bd_X4_distance_23 at hf
    refine lv_iload_n hx hb dX4_distance_23 rfl (lv_at hl 3 rfl) ?_
    refine lv_bipush (v := 12) hx hb dX4_distance_24 (by decide) ?_
    refine lv_icmp_ge (tgt := 51) hx hb dX4_distance_26 (by decide) (fun c26 => ?_) (fun c26 => ?_)
    · have hf := iteT c26 hf
      refine lv_iconst (v := -1) hx hb dX4_distance_51 (by decide) ?_
      obtain ⟨h8, h9⟩ := Prod.mk.inj (Option.some.inj hf)
      subst h9
      exact g_iret S hr hlk hK hP hS h8 dX4_distance_52
    · have hf := iteF c26 hf
      refine lv_iload_n hx hb dX4_distance_29 rfl (lv_at hl 2 rfl) ?_
      refine lv_iload_n hx hb dX4_distance_30 rfl (lv_at hl 1 rfl) ?_
      obtain ⟨v5, hq31, hf⟩ := obw hf
      refine g_calli (va_runS (As := [.int x2_23, .int p1]) (rest := []) S (met_X4_has l D cI cII κ hκ σ1 x2_23 p1 v5 hq31) (va_cwS 2 S.2.2.2.2 gX4_distance_X4_has rfl rfl rfl (by decide +kernel) ⟨Nat.le_of_ble_eq_true rfl, Nat.le_of_ble_eq_true rfl⟩) (g_preS hK hP (Nat.le_refl _)) rfl rfl hl.1 rfl (lv_room (Nat.le_of_ble_eq_true rfl)) dX4_distance_31 ⟨Nat.le_of_ble_eq_true rfl, Nat.le_of_ble_eq_true rfl⟩) (Nat.le_refl _) hκ hA hP hS (fun j h1 h2 => absurd h2 (Nat.not_lt.mpr h1)) (fun H locs hP hS => ?_)
      refine lv_if_eq (tgt := 39) hx hb dX4_distance_34 (by decide) (fun c34 => ?_) (fun c34 => ?_)
      · have hf := iteT c34 hf
        refine lv_aload_n hx hb dX4_distance_39 rfl (lv_at hl 0 rfl) ?_
        refine lv_iload_n hx hb dX4_distance_40 rfl (lv_at hl 2 rfl) ?_
        obtain ⟨v6, hq41, hf⟩ := obw hf
        refine g_calli (va_runV (As := [.int x2_23]) (rest := []) S (met_X4_goOn l D cI cII κ hκ σ1 x2_23 v6 hq41) (cwV 1 S.2.2.2.2 gX4_distance_X4_goOn rfl rfl rfl (by decide +kernel) ⟨Nat.le_of_ble_eq_true rfl, Nat.le_of_ble_eq_true rfl⟩) (g_preV (N := 12) (T := TX4) hK hP (Nat.le_refl _) (by decide) rfl rfl) rfl rfl hl.1 rfl (lv_room (Nat.le_of_ble_eq_true rfl)) dX4_distance_41 ⟨Nat.le_of_ble_eq_true rfl, Nat.le_of_ble_eq_true rfl⟩) (Nat.le_refl _) hκ hA hP hS (fun j h1 h2 => absurd h2 (Nat.not_lt.mpr h1)) (fun H locs hP hS => ?_)
        obtain ⟨v7, ev7, hf⟩ := letb_w hf
        refine lv_nmi ev7 ?_
        refine lv_istore_n (lv' := [(2, .int v7), (0, .ref (κ 0)), (1, .int p1), (3, .int x3_23)]) hx hb dX4_distance_44 rfl hl (by decide) rfl (fun ls hl => ?_)
        obtain ⟨v8, ev8, hf⟩ := letb_w hf
        refine lv_iinc (v := v8) (lv' := [(3, .int v8), (2, .int v7), (0, .ref (κ 0)), (1, .int p1)]) hx hb dX4_distance_45 hl (k := 3) rfl (by rw [ev8]; rfl) (by decide) rfl (fun ls hl => ?_)
        refine lv_goto (tgt := 23) hx hb dX4_distance_48 (by decide) ?_
        exact ih23 _ _ hf _ _ _ hP hS (lv_sub hl [2, 3, 1, 0] rfl)
      · have hf := iteF c34 hf
        refine lv_iload_n hx hb dX4_distance_37 rfl (lv_at hl 3 rfl) ?_
        obtain ⟨h8, h9⟩ := Prod.mk.inj (Option.some.inj hf)
        subst h9
        exact g_iret S hr hlk hK hP hS h8 dX4_distance_38
  · have hf := iteN c10 hf
    refine lv_aload_n hx hb dX4_distance_13 rfl (lv_at hl 0 rfl) ?_
    refine lv_iconst (v := 1) hx hb dX4_distance_14 (by decide) ?_
    obtain ⟨v10, σ9, hq15, hf⟩ := bind2_w hf
    refine g_calli (va_runV (As := [.int 1]) (rest := []) S (met_X4_fail l D cI cII κ hκ σ1 1 v10 σ9 hq15) (cwV 1 S.2.2.2.2 gX4_distance_X4_fail rfl rfl rfl (by decide +kernel) ⟨Nat.le_of_ble_eq_true rfl, Nat.le_of_ble_eq_true rfl⟩) (g_preV (N := 12) (T := TX4) hK hP (Nat.le_refl _) (by decide) rfl rfl) rfl rfl hl.1 rfl (lv_room (Nat.le_of_ble_eq_true rfl)) dX4_distance_15 ⟨Nat.le_of_ble_eq_true rfl, Nat.le_of_ble_eq_true rfl⟩) (Nat.le_refl _) hκ hA hP hS (fun j h1 h2 => absurd h2 (Nat.not_lt.mpr h1)) (fun H locs hP hS => ?_)
    obtain ⟨h8, h9⟩ := Prod.mk.inj (Option.some.inj hf)
    subst h9
    exact g_iret S hr hlk hK hP hS h8 dX4_distance_18

set_option maxRecDepth 100000 in
set_option maxHeartbeats 4000000 in
theorem met_X4_way (l : Launch) (D : va_G) (cI cII : ClassId) (κ : Nat → Nat) (hκ : Inj 5 κ) (σ : SX) (p1 : Int32) (p2 : Int32) (r : Int32) (hf : fn_X4_way σ p1 p2 = some r) : Met l yX4_way wsX4_way ({ frames := 1, cells := 0, slots := 0, locals := 22 } : Room) (va_Pc [.ref (κ 0), .int p1, .int p2] (mP D cI cII κ σ)) (QI D cI cII 5 κ (mC cI cII κ σ) r) 0 0 (gA 5 κ) := by
  refine g_enter (cc := cX4_way) (maxL := 8) (ret := (some .int)) (by decide) rfl (Nat.le_of_ble_eq_true rfl) ?_
  intro p e s m args below meth c ls S hr hlk _ hB hl
  have S : CallFix p m c cX4_way 8 s args wsX4_way RX4 := S
  obtain ⟨hP, hK⟩ := hB
  have hl : lv_has ls 8 [(0, .ref (κ 0)), (1, .int p1), (2, .int p2)] := hl
  have hS : va_S (gA 5 κ) s.heap s.heap [] := va_S.rf
  have hA : ∀ k, k < 5 → gA 5 κ (κ k) := gA_in
  obtain ⟨hx, hb, hml, hown, hts⟩ := id S
  have hiX4 : ∀ w ∈ u_ws RX4 TX4 12, w ∈ wsX4_way := by decide +kernel
  unfold fn_X4_way at hf
  refine lv_iconst (v := 0) hx hb dX4_way_0 (by decide) ?_
  obtain ⟨v1, ev1, hf⟩ := letb_w hf
  refine lv_nmi ev1 ?_
  refine lv_istore_n (lv' := [(3, .int v1), (0, .ref (κ 0)), (1, .int p1), (2, .int p2)]) hx hb dX4_way_1 rfl hl (by decide) rfl (fun ls hl => ?_)
  refine lv_iconst (v := 0) hx hb dX4_way_2 (by decide) ?_
  obtain ⟨v2, ev2, hf⟩ := letb_w hf
  refine lv_nmi ev2 ?_
  refine lv_istore (lv' := [(4, .int v2), (3, .int v1), (0, .ref (κ 0)), (1, .int p1), (2, .int p2)]) hx hb dX4_way_3 hl (by decide) rfl (fun ls hl => ?_)
  refine lv_iconst (v := 0) hx hb dX4_way_5 (by decide) ?_
  obtain ⟨v3, ev3, hf⟩ := letb_w hf
  refine lv_nmi ev3 ?_
  refine lv_istore (lv' := [(5, .int v3), (4, .int v2), (3, .int v1), (0, .ref (κ 0)), (1, .int p1), (2, .int p2)]) hx hb dX4_way_6 hl (by decide) rfl (fun ls hl => ?_)
  refine lv_iconst (v := 0) hx hb dX4_way_8 (by decide) ?_
  obtain ⟨v4, ev4, hf⟩ := letb_w hf
  refine lv_nmi ev4 ?_
  refine lv_istore (lv' := [(6, .int v4), (5, .int v3), (4, .int v2), (3, .int v1), (0, .ref (κ 0)), (1, .int p1), (2, .int p2)]) hx hb dX4_way_9 hl (by decide) rfl (fun ls hl => ?_)
  refine loopF_w (P := fun (g : Int32 → Int32 → Int32 → Int32 → Option (Int32)) => ∀ (x3_11 : Int32) (x4_11 : Int32) (x5_11 : Int32) (x6_11 : Int32), g x3_11 x4_11 x5_11 x6_11 = some r → ∀ (H : Heap) (locs : List Loc) (ls : Array Slot), va_P D vwCl (gw 5 κ (mC cI cII κ σ)) H → va_S (gA 5 κ) s.heap H locs → lv_has ls 8 [(0, .ref (κ 0)), (1, .int p1), (2, .int p2), (3, .int x3_11), (4, .int x4_11), (5, .int x5_11), (6, .int x6_11)] → W p l e ({ frames := 1, cells := 0, slots := 0, locals := 22 } : Room) s m args below meth c H locs 0 0 (MQ below (QI D cI cII 5 κ (mC cI cII κ σ) r) args s 0 0 (gA 5 κ)) (F0 m 11 ls [])) (fun _ _ _ _ h => by simp at h) ?_ FU _ _ _ _ hf _ _ _ hP hS (lv_sub hl [4, 5, 6, 3, 2, 1, 0] rfl)
  intro rec11 ih11 x3_11 x4_11 x5_11 x6_11 hf H locs ls hP hS hl
  unfold bd_X4_way_11 at hf
  refine lv_iload hx hb dX4_way_11 (lv_at hl 6 rfl) ?_
  refine lv_aload_n hx hb dX4_way_13 rfl (lv_at hl 0 rfl) ?_
  refine g_get (q := 0) (ci := 4) (k := 1) (ref := RX4) (C := RX4) (T := TX4) (N := 12) (index := 9) (v := .int ((σ.1 1))) S hK hP hiX4 (by decide) rfl rfl (by decide) rfl (by decide +kernel) rfl dX4_way_14 ?_
  refine lv_icmp_ge (tgt := 101) hx hb dX4_way_17 (by decide) (fun c17 => ?_) (fun c17 => ?_)
  · have hf := iteT c17 hf
    refine lv_iload_n hx hb dX4_way_101 rfl (lv_at hl 3 rfl) ?_
    refine lv_iload hx hb dX4_way_102 (lv_at hl 4 rfl) ?_
    refine lv_iadd hx hb dX4_way_104 ?_
    refine lv_if_ne (tgt := 110) hx hb dX4_way_105 (by decide) (fun c105 => ?_) (fun c105 => ?_)
    · have hf := iteT c105 hf
      refine lv_iload_n hx hb dX4_way_110 rfl (lv_at hl 3 rfl) ?_
      refine lv_iload hx hb dX4_way_111 (lv_at hl 5 rfl) ?_
      refine lv_icmp_ne (tgt := 120) hx hb dX4_way_113 (by decide) (fun c113 => ?_) (fun c113 => ?_)
      · have hf := iteT c113 hf
        refine lv_iload hx hb dX4_way_120 (lv_at hl 4 rfl) ?_
        refine lv_iload hx hb dX4_way_122 (lv_at hl 5 rfl) ?_
        refine lv_icmp_ne (tgt := 131) hx hb dX4_way_124 (by decide) (fun c124 => ?_) (fun c124 => ?_)
        · have hf := iteT c124 hf
          refine lv_iconst (v := 3) hx hb dX4_way_131 (by decide) ?_
          exact g_iret S hr hlk hK hP hS (Option.some.inj hf) dX4_way_132
        · have hf := iteN c124 hf
          refine lv_iconst (v := 2) hx hb dX4_way_127 (by decide) ?_
          refine lv_goto (tgt := 132) hx hb dX4_way_128 (by decide) ?_
          exact g_iret S hr hlk hK hP hS (Option.some.inj hf) dX4_way_132
      · have hf := iteN c113 hf
        refine lv_iconst (v := 1) hx hb dX4_way_116 (by decide) ?_
        refine lv_goto (tgt := 132) hx hb dX4_way_117 (by decide) ?_
        exact g_iret S hr hlk hK hP hS (Option.some.inj hf) dX4_way_132
    · have hf := iteN c105 hf
      refine lv_iconst (v := 0) hx hb dX4_way_108 (by decide) ?_
      exact g_iret S hr hlk hK hP hS (Option.some.inj hf) dX4_way_109
  · have hf := iteF c17 hf
    refine lv_aload_n hx hb dX4_way_20 rfl (lv_at hl 0 rfl) ?_
    refine lv_iload hx hb dX4_way_21 (lv_at hl 6 rfl) ?_
    refine lv_iload_n hx hb dX4_way_23 rfl (lv_at hl 2 rfl) ?_
    obtain ⟨v5, hq24, hf⟩ := obw hf
    refine g_calli (va_runV (As := [.int x6_11, .int p2]) (rest := []) S (met_X4_to l D cI cII κ hκ σ x6_11 p2 v5 hq24) (cwV 2 S.2.2.2.2 gX4_way_X4_to rfl rfl rfl (by decide +kernel) ⟨Nat.le_of_ble_eq_true rfl, Nat.le_of_ble_eq_true rfl⟩) (g_preV (N := 12) (T := TX4) hK hP (Nat.le_refl _) (by decide) rfl rfl) rfl rfl hl.1 rfl (lv_room (Nat.le_of_ble_eq_true rfl)) dX4_way_24 ⟨Nat.le_of_ble_eq_true rfl, Nat.le_of_ble_eq_true rfl⟩) (Nat.le_refl _) hκ hA hP hS (fun j h1 h2 => absurd h2 (Nat.not_lt.mpr h1)) (fun H locs hP hS => ?_)
    obtain ⟨v6, ev6, hf⟩ := letb_w hf
    refine lv_nmi ev6 ?_
    refine lv_istore (lv' := [(7, .int v6), (0, .ref (κ 0)), (1, .int p1), (2, .int p2), (3, .int x3_11), (4, .int x4_11), (5, .int x5_11), (6, .int x6_11)]) hx hb dX4_way_27 hl (by decide) rfl (fun ls hl => ?_)
    refine lv_iload hx hb dX4_way_29 (lv_at hl 0 rfl) ?_
    refine lv_iconst (v := -1) hx hb dX4_way_31 (by decide) ?_
    obtain ⟨K95, hK95, hf⟩ := letb_w hf
    have J95 : ∀ (y3_95 : Int32) (y4_95 : Int32) (y5_95 : Int32), K95 y3_95 y4_95 y5_95 = some r → ∀ (H : Heap) (locs : List Loc) (ls : Array Slot), va_P D vwCl (gw 5 κ (mC cI cII κ σ)) H → va_S (gA 5 κ) s.heap H locs → lv_has ls 8 [(0, .ref (κ 0)), (1, .int p1), (2, .int p2), (3, .int y3_95), (4, .int y4_95), (5, .int y5_95), (6, .int x6_11)] → W p l e ({ frames := 1, cells := 0, slots := 0, locals := 22 } : Room) s m args below meth c H locs 0 0 (MQ below (QI D cI cII 5 κ (mC cI cII κ σ) r) args s 0 0 (gA 5 κ)) (F0 m 95 ls []) := by
      intro y3_95 y4_95 y5_95 hf H locs ls hP hS hl
      rw [hK95] at hf
      obtain ⟨v7, ev7, hf⟩ := letb_w hf
      refine lv_iinc (v := v7) (lv' := [(6, .int v7), (0, .ref (κ 0)), (1, .int p1), (2, .int p2), (3, .int y3_95), (4, .int y4_95), (5, .int y5_95)]) hx hb dX4_way_95 hl (k := 6) rfl (by rw [ev7]; rfl) (by decide) rfl (fun ls hl => ?_)
      refine lv_goto (tgt := 11) hx hb dX4_way_98 (by decide) ?_
      exact ih11 _ _ _ _ hf _ _ _ hP hS (lv_sub hl [1, 2, 3, 4, 5, 6, 0] rfl)
    refine lv_icmp_ne (tgt := 38) hx hb dX4_way_32 (by decide) (fun c32 => ?_) (fun c32 => ?_)
    · have hf := iteT c32 hf
      obtain ⟨v8, ev8, hf⟩ := letb_w hf
      refine lv_iinc (v := v8) (lv' := [(5, .int v8), (7, .int v6), (0, .ref (κ 0)), (1, .int p1), (2, .int p2), (3, .int x3_11), (4, .int x4_11), (6, .int x6_11)]) hx hb dX4_way_38 hl (k := 6) rfl (by rw [ev8]; rfl) (by decide) rfl (fun ls hl => ?_)
      refine lv_iload_n hx hb dX4_way_41 rfl (lv_at hl 5 rfl) ?_
      refine lv_iload_n hx hb dX4_way_42 rfl (lv_at hl 3 rfl) ?_
      refine lv_iload hx hb dX4_way_43 (lv_at hl 7 rfl) ?_
      obtain ⟨v9, hq45, hf⟩ := obw hf
      refine g_calli (va_runS (As := [.int p1, .int x6_11]) (rest := [.int x3_11]) S (met_X4_has l D cI cII κ hκ σ p1 x6_11 v9 hq45) (va_cwS 2 S.2.2.2.2 gX4_way_X4_has rfl rfl rfl (by decide +kernel) ⟨Nat.le_of_ble_eq_true rfl, Nat.le_of_ble_eq_true rfl⟩) (g_preS hK hP (Nat.le_refl _)) rfl rfl hl.1 rfl (lv_room (Nat.le_of_ble_eq_true rfl)) dX4_way_45 ⟨Nat.le_of_ble_eq_true rfl, Nat.le_of_ble_eq_true rfl⟩) (Nat.le_refl _) hκ hA hP hS (fun j h1 h2 => absurd h2 (Nat.not_lt.mpr h1)) (fun H locs hP hS => ?_)
      obtain ⟨K65, hK65, hf⟩ := letb_w hf
      have J65 : ∀ (z1_65 : Int32), K65 z1_65 = some r → ∀ (H : Heap) (locs : List Loc) (ls : Array Slot), va_P D vwCl (gw 5 κ (mC cI cII κ σ)) H → va_S (gA 5 κ) s.heap H locs → lv_has ls 8 [(0, .ref (κ 0)), (1, .int p1), (2, .int p2), (4, .int x4_11), (5, .int v8), (6, .int x6_11), (7, .int v6)] → W p l e ({ frames := 1, cells := 0, slots := 0, locals := 22 } : Room) s m args below meth c H locs 0 0 (MQ below (QI D cI cII 5 κ (mC cI cII κ σ) r) args s 0 0 (gA 5 κ)) (F0 m 65 ls [.int z1_65, .int x3_11]) := by
        intro z1_65 hf H locs ls hP hS hl
        rw [hK65] at hf
        refine lv_iadd hx hb dX4_way_65 ?_
        obtain ⟨v10, ev10, hf⟩ := letb_w hf
        refine lv_nmi ev10 ?_
        refine lv_istore_n (lv' := [(3, .int v10), (0, .ref (κ 0)), (1, .int p1), (2, .int p2), (4, .int x4_11), (5, .int v8), (6, .int x6_11), (7, .int v6)]) hx hb dX4_way_66 rfl hl (by decide) rfl (fun ls hl => ?_)
        refine lv_iload hx hb dX4_way_67 (lv_at hl 4 rfl) ?_
        refine lv_iload_n hx hb dX4_way_69 rfl (lv_at hl 2 rfl) ?_
        refine lv_iload hx hb dX4_way_70 (lv_at hl 6 rfl) ?_
        obtain ⟨v11, hq72, hf⟩ := obw hf
        refine g_calli (va_runS (As := [.int p1, .int x6_11]) (rest := [.int x4_11]) S (met_X4_has l D cI cII κ hκ σ p1 x6_11 v11 hq72) (va_cwS 2 S.2.2.2.2 gX4_way_X4_has rfl rfl rfl (by decide +kernel) ⟨Nat.le_of_ble_eq_true rfl, Nat.le_of_ble_eq_true rfl⟩) (g_preS hK hP (Nat.le_refl _)) rfl rfl hl.1 rfl (lv_room (Nat.le_of_ble_eq_true rfl)) dX4_way_72 ⟨Nat.le_of_ble_eq_true rfl, Nat.le_of_ble_eq_true rfl⟩) (Nat.le_refl _) hκ hA hP hS (fun j h1 h2 => absurd h2 (Nat.not_lt.mpr h1)) (fun H locs hP hS => ?_)
        obtain ⟨K92, hK92, hf⟩ := letb_w hf
        have J92 : ∀ (z1_92 : Int32), K92 z1_92 = some r → ∀ (H : Heap) (locs : List Loc) (ls : Array Slot), va_P D vwCl (gw 5 κ (mC cI cII κ σ)) H → va_S (gA 5 κ) s.heap H locs → lv_has ls 8 [(0, .ref (κ 0)), (1, .int p1), (2, .int p2), (3, .int v10), (5, .int v8), (6, .int x6_11)] → W p l e ({ frames := 1, cells := 0, slots := 0, locals := 22 } : Room) s m args below meth c H locs 0 0 (MQ below (QI D cI cII 5 κ (mC cI cII κ σ) r) args s 0 0 (gA 5 κ)) (F0 m 92 ls [.int z1_92, .int x4_11]) := by
          intro z1_92 hf H locs ls hP hS hl
          rw [hK92] at hf
          refine lv_iadd hx hb dX4_way_92 ?_
          obtain ⟨v12, ev12, hf⟩ := letb_w hf
          refine lv_nmi ev12 ?_
          refine lv_istore (lv' := [(4, .int v12), (0, .ref (κ 0)), (1, .int p1), (2, .int p2), (3, .int v10), (5, .int v8), (6, .int x6_11)]) hx hb dX4_way_93 hl (by decide) rfl (fun ls hl => ?_)
          exact J95 _ _ _ hf _ _ _ hP hS (lv_sub hl [1, 2, 3, 4, 0, 5, 6] rfl)
        obtain ⟨K91, hK91, hf⟩ := letb_w hf
        have J91 : ∀ (_u : Unit), K91 _u = some r → ∀ (H : Heap) (locs : List Loc) (ls : Array Slot), va_P D vwCl (gw 5 κ (mC cI cII κ σ)) H → va_S (gA 5 κ) s.heap H locs → lv_has ls 8 [(0, .ref (κ 0)), (1, .int p1), (2, .int p2), (3, .int v10), (5, .int v8), (6, .int x6_11)] → W p l e ({ frames := 1, cells := 0, slots := 0, locals := 22 } : Room) s m args below meth c H locs 0 0 (MQ below (QI D cI cII 5 κ (mC cI cII κ σ) r) args s 0 0 (gA 5 κ)) (F0 m 91 ls [.int x4_11]) := by
          intro _u hf H locs ls hP hS hl
          rw [hK91] at hf
          refine lv_iconst (v := 0) hx hb dX4_way_91 (by decide) ?_
          exact J92 _ hf _ _ _ hP hS (lv_sub hl [0, 1, 2, 3, 4, 5] rfl)
        refine lv_if_eq (tgt := 91) hx hb dX4_way_75 (by decide) (fun c75 => ?_) (fun c75 => ?_)
        · have hf := iteT c75 hf
          exact J91 _ hf _ _ _ hP hS (lv_sub hl [1, 2, 3, 0, 5, 6] rfl)
        · have hf := iteF c75 hf
          refine lv_iload_n hx hb dX4_way_78 rfl (lv_at hl 2 rfl) ?_
          refine lv_iload hx hb dX4_way_79 (lv_at hl 7 rfl) ?_
          obtain ⟨v13, hq81, hf⟩ := obw hf
          refine g_calli (va_runS (As := [.int p1, .int v6]) (rest := [.int x4_11]) S (met_X4_has l D cI cII κ hκ σ p1 v6 v13 hq81) (va_cwS 2 S.2.2.2.2 gX4_way_X4_has rfl rfl rfl (by decide +kernel) ⟨Nat.le_of_ble_eq_true rfl, Nat.le_of_ble_eq_true rfl⟩) (g_preS hK hP (Nat.le_refl _)) rfl rfl hl.1 rfl (lv_room (Nat.le_of_ble_eq_true rfl)) dX4_way_81 ⟨Nat.le_of_ble_eq_true rfl, Nat.le_of_ble_eq_true rfl⟩) (Nat.le_refl _) hκ hA hP hS (fun j h1 h2 => absurd h2 (Nat.not_lt.mpr h1)) (fun H locs hP hS => ?_)
          refine lv_if_ne (tgt := 91) hx hb dX4_way_84 (by decide) (fun c84 => ?_) (fun c84 => ?_)
          · have hf := iteT c84 hf
            exact J91 _ hf _ _ _ hP hS (lv_sub hl [1, 2, 3, 0, 5, 6] rfl)
          · have hf := iteN c84 hf
            refine lv_iconst (v := 1) hx hb dX4_way_87 (by decide) ?_
            refine lv_goto (tgt := 92) hx hb dX4_way_88 (by decide) ?_
            exact J92 _ hf _ _ _ hP hS (lv_sub hl [1, 2, 3, 0, 5, 6] rfl)
      obtain ⟨K64, hK64, hf⟩ := letb_w hf
      have J64 : ∀ (_u : Unit), K64 _u = some r → ∀ (H : Heap) (locs : List Loc) (ls : Array Slot), va_P D vwCl (gw 5 κ (mC cI cII κ σ)) H → va_S (gA 5 κ) s.heap H locs → lv_has ls 8 [(0, .ref (κ 0)), (1, .int p1), (2, .int p2), (4, .int x4_11), (5, .int v8), (6, .int x6_11), (7, .int v6)] → W p l e ({ frames := 1, cells := 0, slots := 0, locals := 22 } : Room) s m args below meth c H locs 0 0 (MQ below (QI D cI cII 5 κ (mC cI cII κ σ) r) args s 0 0 (gA 5 κ)) (F0 m 64 ls [.int x3_11]) := by
        intro _u hf H locs ls hP hS hl
        rw [hK64] at hf
        refine lv_iconst (v := 0) hx hb dX4_way_64 (by decide) ?_
        exact J65 _ hf _ _ _ hP hS (lv_sub hl [0, 1, 2, 3, 4, 5, 6] rfl)
      refine lv_if_ne (tgt := 64) hx hb dX4_way_48 (by decide) (fun c48 => ?_) (fun c48 => ?_)
      · have hf := iteT c48 hf
        exact J64 _ hf _ _ _ hP hS (lv_sub hl [2, 3, 4, 6, 0, 7, 1] rfl)
      · have hf := iteN c48 hf
        refine lv_iload_n hx hb dX4_way_51 rfl (lv_at hl 3 rfl) ?_
        refine lv_iload hx hb dX4_way_52 (lv_at hl 1 rfl) ?_
        obtain ⟨v14, hq54, hf⟩ := obw hf
        refine g_calli (va_runS (As := [.int p1, .int v6]) (rest := [.int x3_11]) S (met_X4_has l D cI cII κ hκ σ p1 v6 v14 hq54) (va_cwS 2 S.2.2.2.2 gX4_way_X4_has rfl rfl rfl (by decide +kernel) ⟨Nat.le_of_ble_eq_true rfl, Nat.le_of_ble_eq_true rfl⟩) (g_preS hK hP (Nat.le_refl _)) rfl rfl hl.1 rfl (lv_room (Nat.le_of_ble_eq_true rfl)) dX4_way_54 ⟨Nat.le_of_ble_eq_true rfl, Nat.le_of_ble_eq_true rfl⟩) (Nat.le_refl _) hκ hA hP hS (fun j h1 h2 => absurd h2 (Nat.not_lt.mpr h1)) (fun H locs hP hS => ?_)
        refine lv_if_eq (tgt := 64) hx hb dX4_way_57 (by decide) (fun c57 => ?_) (fun c57 => ?_)
        · have hf := iteT c57 hf
          exact J64 _ hf _ _ _ hP hS (lv_sub hl [2, 3, 4, 6, 0, 7, 1] rfl)
        · have hf := iteF c57 hf
          refine lv_iconst (v := 1) hx hb dX4_way_60 (by decide) ?_
          refine lv_goto (tgt := 65) hx hb dX4_way_61 (by decide) ?_
          exact J65 _ hf _ _ _ hP hS (lv_sub hl [2, 3, 4, 6, 0, 7, 1] rfl)
    · have hf := iteN c32 hf
      refine lv_goto (tgt := 95) hx hb dX4_way_35 (by decide) ?_
      exact J95 _ _ _ hf _ _ _ hP hS (lv_sub hl [1, 2, 3, 4, 5, 6, 7] rfl)
