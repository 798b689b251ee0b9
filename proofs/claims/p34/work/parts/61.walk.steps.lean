/-! by wip/p34/gen.py: walks: the machine computes the pure functions -/
set_option maxRecDepth 100000 in
set_option maxHeartbeats 4000000 in
theorem met_J6_bitCount (l : Launch) (D : va_G) (cI cII : ClassId) (n : Nat) (κ : Nat → Nat) (f : Nat → va_E) (p1 : Int32) (r : Int32) (hf : fn_J6_bitCount p1 = some r) : Met l yJ6_bitCount_0f7a4 wsJ6_bitCount_0f7a4 ({ frames := 0, cells := 0, slots := 0, locals := 0 } : Room) (va_Pc [.int p1] (gP D cI cII n κ f)) (QI D cI cII n κ f r) 0 0 (gA n κ) := by
  refine g_enter (cc := cJ6_bitCount_0f7a4) (maxL := 1) (ret := (some .int)) (by decide) rfl (Nat.le_of_ble_eq_true rfl) ?_
  intro p e s m args below meth c ls S hr hlk _ hB hl
  have S : CallFix p m c cJ6_bitCount_0f7a4 1 s args wsJ6_bitCount_0f7a4 RJ6 := S
  obtain ⟨hP, hK⟩ := hB
  have hl : lv_has ls 1 [(0, .int p1)] := hl
  have hS : va_S (gA n κ) s.heap s.heap [] := va_S.rf
  have hA : ∀ k, k < n → gA n κ (κ k) := gA_in
  obtain ⟨hx, hb, hml, hown, hts⟩ := id S
  unfold fn_J6_bitCount at hf
  refine lv_iload_n hx hb dJ6_bitCount_0f7a4_0 rfl (lv_at hl 0 rfl) ?_
  refine lv_iload_n hx hb dJ6_bitCount_0f7a4_1 rfl (lv_at hl 0 rfl) ?_
  refine lv_iconst (v := 1) hx hb dJ6_bitCount_0f7a4_2 (by decide) ?_
  refine lv_iushr (v := (p1.toUInt32 >>> ((1 : Int32).toUInt32 &&& Int32.toUInt32 31)).toInt32) hx hb dJ6_bitCount_0f7a4_3 rfl ?_
  refine lv_ldcw (v := 1431655765) hx hb hown (hts (.constant RJ6 265 1431655765) (by decide +kernel)) dJ6_bitCount_0f7a4_4 ?_
  refine lv_iand hx hb dJ6_bitCount_0f7a4_7 ?_
  refine lv_isub hx hb dJ6_bitCount_0f7a4_8 ?_
  obtain ⟨v1, ev1, hf⟩ := letb_w hf
  refine lv_nmi ev1 ?_
  refine lv_istore_n (lv' := [(0, .int v1)]) hx hb dJ6_bitCount_0f7a4_9 rfl hl (by decide) rfl (fun ls hl => ?_)
  refine lv_iload_n hx hb dJ6_bitCount_0f7a4_10 rfl (lv_at hl 0 rfl) ?_
  refine lv_ldcw (v := 858993459) hx hb hown (hts (.constant RJ6 266 858993459) (by decide +kernel)) dJ6_bitCount_0f7a4_11 ?_
  refine lv_iand hx hb dJ6_bitCount_0f7a4_14 ?_
  refine lv_iload_n hx hb dJ6_bitCount_0f7a4_15 rfl (lv_at hl 0 rfl) ?_
  refine lv_iconst (v := 2) hx hb dJ6_bitCount_0f7a4_16 (by decide) ?_
  refine lv_iushr (v := (v1.toUInt32 >>> ((2 : Int32).toUInt32 &&& Int32.toUInt32 31)).toInt32) hx hb dJ6_bitCount_0f7a4_17 rfl ?_
  refine lv_ldcw (v := 858993459) hx hb hown (hts (.constant RJ6 266 858993459) (by decide +kernel)) dJ6_bitCount_0f7a4_18 ?_
  refine lv_iand hx hb dJ6_bitCount_0f7a4_21 ?_
  refine lv_iadd hx hb dJ6_bitCount_0f7a4_22 ?_
  obtain ⟨v2, ev2, hf⟩ := letb_w hf
  refine lv_nmi ev2 ?_
  refine lv_istore_n (lv' := [(0, .int v2)]) hx hb dJ6_bitCount_0f7a4_23 rfl hl (by decide) rfl (fun ls hl => ?_)
  refine lv_iload_n hx hb dJ6_bitCount_0f7a4_24 rfl (lv_at hl 0 rfl) ?_
  refine lv_iload_n hx hb dJ6_bitCount_0f7a4_25 rfl (lv_at hl 0 rfl) ?_
  refine lv_iconst (v := 4) hx hb dJ6_bitCount_0f7a4_26 (by decide) ?_
  refine lv_iushr (v := (v2.toUInt32 >>> ((4 : Int32).toUInt32 &&& Int32.toUInt32 31)).toInt32) hx hb dJ6_bitCount_0f7a4_27 rfl ?_
  refine lv_iadd hx hb dJ6_bitCount_0f7a4_28 ?_
  refine lv_ldcw (v := 252645135) hx hb hown (hts (.constant RJ6 267 252645135) (by decide +kernel)) dJ6_bitCount_0f7a4_29 ?_
  refine lv_iand hx hb dJ6_bitCount_0f7a4_32 ?_
  obtain ⟨v3, ev3, hf⟩ := letb_w hf
  refine lv_nmi ev3 ?_
  refine lv_istore_n (lv' := [(0, .int v3)]) hx hb dJ6_bitCount_0f7a4_33 rfl hl (by decide) rfl (fun ls hl => ?_)
  refine lv_iload_n hx hb dJ6_bitCount_0f7a4_34 rfl (lv_at hl 0 rfl) ?_
  refine lv_iload_n hx hb dJ6_bitCount_0f7a4_35 rfl (lv_at hl 0 rfl) ?_
  refine lv_bipush (v := 8) hx hb dJ6_bitCount_0f7a4_36 (by decide) ?_
  refine lv_iushr (v := (v3.toUInt32 >>> ((8 : Int32).toUInt32 &&& Int32.toUInt32 31)).toInt32) hx hb dJ6_bitCount_0f7a4_38 rfl ?_
  refine lv_iadd hx hb dJ6_bitCount_0f7a4_39 ?_
  obtain ⟨v4, ev4, hf⟩ := letb_w hf
  refine lv_nmi ev4 ?_
  refine lv_istore_n (lv' := [(0, .int v4)]) hx hb dJ6_bitCount_0f7a4_40 rfl hl (by decide) rfl (fun ls hl => ?_)
  refine lv_iload_n hx hb dJ6_bitCount_0f7a4_41 rfl (lv_at hl 0 rfl) ?_
  refine lv_iload_n hx hb dJ6_bitCount_0f7a4_42 rfl (lv_at hl 0 rfl) ?_
  refine lv_bipush (v := 16) hx hb dJ6_bitCount_0f7a4_43 (by decide) ?_
  refine lv_iushr (v := (v4.toUInt32 >>> ((16 : Int32).toUInt32 &&& Int32.toUInt32 31)).toInt32) hx hb dJ6_bitCount_0f7a4_45 rfl ?_
  refine lv_iadd hx hb dJ6_bitCount_0f7a4_46 ?_
  obtain ⟨v5, ev5, hf⟩ := letb_w hf
  refine lv_nmi ev5 ?_
  refine lv_istore_n (lv' := [(0, .int v5)]) hx hb dJ6_bitCount_0f7a4_47 rfl hl (by decide) rfl (fun ls hl => ?_)
  refine lv_iload_n hx hb dJ6_bitCount_0f7a4_48 rfl (lv_at hl 0 rfl) ?_
  refine lv_bipush (v := 63) hx hb dJ6_bitCount_0f7a4_49 (by decide) ?_
  refine lv_iand hx hb dJ6_bitCount_0f7a4_51 ?_
  exact g_iret S hr hlk hK hP hS (Option.some.inj hf) dJ6_bitCount_0f7a4_52

set_option maxRecDepth 100000 in
set_option maxHeartbeats 4000000 in
theorem met_L_below (l : Launch) (D : va_G) (cI cII : ClassId) (n : Nat) (κ : Nat → Nat) (f : Nat → va_E) (p1 : Int32) (p2 : Int32) (r : Int32) (hf : fn_L_below p1 p2 = some r) : Met l yL_below wsL_below ({ frames := 0, cells := 0, slots := 0, locals := 0 } : Room) (va_Pc [.int p1, .int p2] (gP D cI cII n κ f)) (QI D cI cII n κ f r) 0 0 (gA n κ) := by
  refine g_enter (cc := cL_below) (maxL := 2) (ret := (some .int)) (by decide) rfl (Nat.le_of_ble_eq_true rfl) ?_
  intro p e s m args below meth c ls S hr hlk _ hB hl
  have S : CallFix p m c cL_below 2 s args wsL_below RL := S
  obtain ⟨hP, hK⟩ := hB
  have hl : lv_has ls 2 [(0, .int p1), (1, .int p2)] := hl
  have hS : va_S (gA n κ) s.heap s.heap [] := va_S.rf
  have hA : ∀ k, k < n → gA n κ (κ k) := gA_in
  obtain ⟨hx, hb, hml, hown, hts⟩ := id S
  unfold fn_L_below at hf
  refine lv_iload_n hx hb dL_below_0 rfl (lv_at hl 0 rfl) ?_
  refine lv_ldc (v := 2147483647) hx hb hown (hts (.constant RL 7 2147483647) (by decide +kernel)) dL_below_1 ?_
  refine lv_iand hx hb dL_below_3 ?_
  refine lv_iload_n hx hb dL_below_4 rfl (lv_at hl 1 rfl) ?_
  obtain ⟨_, hz5, hf⟩ := obw hf
  refine lv_irem hx hb dL_below_5 (nz_w hz5) ?_
  exact g_iret S hr hlk hK hP hS (Option.some.inj hf) dL_below_6

set_option maxRecDepth 100000 in
set_option maxHeartbeats 4000000 in
theorem met_X3_has (l : Launch) (D : va_G) (cI cII : ClassId) (κ : Nat → Nat) (hκ : Inj 31 κ) (σ : SX) (p1 : Int32) (p2 : Int32) (r : Int32) (hf : fn_X3_has σ p1 p2 = some r) : Met l yX3_has wsX3_has ({ frames := 0, cells := 0, slots := 0, locals := 0 } : Room) (va_Pc [.int p1, .int p2] (xP D cI cII κ σ)) (QI D cI cII 31 κ (xC cI cII κ σ) r) 0 0 (gA 31 κ) := by
  refine g_enter (cc := cX3_has) (maxL := 2) (ret := (some .boolean)) (by decide) rfl (Nat.le_of_ble_eq_true rfl) ?_
  intro p e s m args below meth c ls S hr hlk _ hB hl
  have S : CallFix p m c cX3_has 2 s args wsX3_has RX3 := S
  obtain ⟨hP, hK⟩ := hB
  have hl : lv_has ls 2 [(0, .int p1), (1, .int p2)] := hl
  have hS : va_S (gA 31 κ) s.heap s.heap [] := va_S.rf
  have hA : ∀ k, k < 31 → gA 31 κ (κ k) := gA_in
  obtain ⟨hx, hb, hml, hown, hts⟩ := id S
  unfold fn_X3_has at hf
  refine lv_iload_n hx hb dX3_has_0 rfl (lv_at hl 0 rfl) ?_
  refine lv_iload_n hx hb dX3_has_1 rfl (lv_at hl 1 rfl) ?_
  refine lv_ishr hx hb dX3_has_2 ?_
  refine lv_iconst (v := 1) hx hb dX3_has_3 (by decide) ?_
  refine lv_iand hx hb dX3_has_4 ?_
  refine lv_if_eq (tgt := 12) hx hb dX3_has_5 (by decide) (fun c5 => ?_) (fun c5 => ?_)
  · have hf := iteT c5 hf
    refine lv_iconst (v := 0) hx hb dX3_has_12 (by decide) ?_
    exact g_zret S hr hlk hK hP hS hf dX3_has_13
  · have hf := iteF c5 hf
    refine lv_iconst (v := 1) hx hb dX3_has_8 (by decide) ?_
    refine lv_goto (tgt := 13) hx hb dX3_has_9 (by decide) ?_
    exact g_zret S hr hlk hK hP hS hf dX3_has_13

set_option maxRecDepth 100000 in
set_option maxHeartbeats 4000000 in
theorem met_X2_all (l : Launch) (D : va_G) (cI cII : ClassId) (κ : Nat → Nat) (hκ : Inj 31 κ) (σ : SX)  (r : Int32) (hf : fn_X2_all σ  = some r) : Met l yX2_all wsX2_all ({ frames := 0, cells := 0, slots := 0, locals := 0 } : Room) (va_Pc [.ref (κ 1)] (xP D cI cII κ σ)) (QI D cI cII 31 κ (xC cI cII κ σ) r) 0 0 (gA 31 κ) := by
  refine g_enter (cc := cX2_all) (maxL := 1) (ret := (some .int)) (by decide) rfl (Nat.le_of_ble_eq_true rfl) ?_
  intro p e s m args below meth c ls S hr hlk _ hB hl
  have S : CallFix p m c cX2_all 1 s args wsX2_all RX2 := S
  obtain ⟨hP, hK⟩ := hB
  have hl : lv_has ls 1 [(0, .ref (κ 1))] := hl
  have hS : va_S (gA 31 κ) s.heap s.heap [] := va_S.rf
  have hA : ∀ k, k < 31 → gA 31 κ (κ k) := gA_in
  obtain ⟨hx, hb, hml, hown, hts⟩ := id S
  have hiX2 : ∀ w ∈ u_ws RX2 TX2 5, w ∈ wsX2_all := by decide +kernel
  unfold fn_X2_all at hf
  refine lv_iconst (v := 1) hx hb dX2_all_0 (by decide) ?_
  refine lv_aload_n hx hb dX2_all_1 rfl (lv_at hl 0 rfl) ?_
  refine g_get (q := 1) (ci := 2) (k := 0) (ref := RX2) (C := RX2) (T := TX2) (N := 5) (index := 9) (v := .int ((σ.1 0))) S hK hP hiX2 (by decide) rfl rfl (by decide) rfl (by decide +kernel) rfl dX2_all_2 ?_
  refine lv_ishl hx hb dX2_all_5 ?_
  refine lv_iconst (v := 1) hx hb dX2_all_6 (by decide) ?_
  refine lv_isub hx hb dX2_all_7 ?_
  exact g_iret S hr hlk hK hP hS (Option.some.inj hf) dX2_all_8

set_option maxRecDepth 100000 in
set_option maxHeartbeats 4000000 in
theorem met_X2_end (l : Launch) (D : va_G) (cI cII : ClassId) (κ : Nat → Nat) (hκ : Inj 31 κ) (σ : SX) (p1 : Int32) (p2 : Int32) (r : Int32) (hf : fn_X2_end σ p1 p2 = some r) : Met l yX2_end wsX2_end ({ frames := 0, cells := 0, slots := 0, locals := 0 } : Room) (va_Pc [.ref (κ 1), .int p1, .int p2] (xP D cI cII κ σ)) (QI D cI cII 31 κ (xC cI cII κ σ) r) 0 0 (gA 31 κ) := by
  refine g_enter (cc := cX2_end) (maxL := 3) (ret := (some .int)) (by decide) rfl (Nat.le_of_ble_eq_true rfl) ?_
  intro p e s m args below meth c ls S hr hlk _ hB hl
  have S : CallFix p m c cX2_end 3 s args wsX2_end RX2 := S
  obtain ⟨hP, hK⟩ := hB
  have hl : lv_has ls 3 [(0, .ref (κ 1)), (1, .int p1), (2, .int p2)] := hl
  have hS : va_S (gA 31 κ) s.heap s.heap [] := va_S.rf
  have hA : ∀ k, k < 31 → gA 31 κ (κ k) := gA_in
  obtain ⟨hx, hb, hml, hown, hts⟩ := id S
  have hiX2 : ∀ w ∈ u_ws RX2 TX2 5, w ∈ wsX2_end := by decide +kernel
  unfold fn_X2_end at hf
  refine lv_aload_n hx hb dX2_end_0 rfl (lv_at hl 0 rfl) ?_
  refine g_get (q := 1) (ci := 2) (k := 1) (ref := RX2) (C := RX2) (T := TX2) (N := 5) (index := 17) (v := .ref (κ 4)) S hK hP hiX2 (by decide) rfl rfl (by decide) rfl (by decide +kernel) rfl dX2_end_1 ?_
  refine lv_iload_n hx hb dX2_end_4 rfl (lv_at hl 2 rfl) ?_
  obtain ⟨r1, hr1, hf⟩ := obw hf
  have br1 : r1 < 6 := (arow_w hr1).2.2
  refine g_aald (q := 4) (b := 13) S hK hP (by decide) rfl hr1 dX2_end_5 ?_
  refine lv_iload_n hx hb dX2_end_6 rfl (lv_at hl 1 rfl) ?_
  obtain ⟨v2, hv2, hf⟩ := obw hf
  refine g_ald (a := (13 + r1)) (len := 12) S hK hP (by omega) (xC_arr (by omega) (xLen13 br1)) hv2 dX2_end_7 ?_
  exact g_iret S hr hlk hK hP hS (Option.some.inj hf) dX2_end_8

set_option maxRecDepth 100000 in
set_option maxHeartbeats 4000000 in
theorem met_X2_beginning (l : Launch) (D : va_G) (cI cII : ClassId) (κ : Nat → Nat) (hκ : Inj 31 κ) (σ : SX) (p1 : Int32) (r : Int32) (hf : fn_X2_beginning σ p1 = some r) : Met l yX2_beginning wsX2_beginning ({ frames := 0, cells := 0, slots := 0, locals := 0 } : Room) (va_Pc [.ref (κ 1), .int p1] (xP D cI cII κ σ)) (QI D cI cII 31 κ (xC cI cII κ σ) r) 0 0 (gA 31 κ) := by
  refine g_enter (cc := cX2_beginning) (maxL := 2) (ret := (some .int)) (by decide) rfl (Nat.le_of_ble_eq_true rfl) ?_
  intro p e s m args below meth c ls S hr hlk _ hB hl
  have S : CallFix p m c cX2_beginning 2 s args wsX2_beginning RX2 := S
  obtain ⟨hP, hK⟩ := hB
  have hl : lv_has ls 2 [(0, .ref (κ 1)), (1, .int p1)] := hl
  have hS : va_S (gA 31 κ) s.heap s.heap [] := va_S.rf
  have hA : ∀ k, k < 31 → gA 31 κ (κ k) := gA_in
  obtain ⟨hx, hb, hml, hown, hts⟩ := id S
  have hiX2 : ∀ w ∈ u_ws RX2 TX2 5, w ∈ wsX2_beginning := by decide +kernel
  unfold fn_X2_beginning at hf
  refine lv_aload_n hx hb dX2_beginning_0 rfl (lv_at hl 0 rfl) ?_
  refine g_get (q := 1) (ci := 2) (k := 2) (ref := RX2) (C := RX2) (T := TX2) (N := 5) (index := 20) (v := .ref (κ 5)) S hK hP hiX2 (by decide) rfl rfl (by decide) rfl (by decide +kernel) rfl dX2_beginning_1 ?_
  refine lv_iload_n hx hb dX2_beginning_4 rfl (lv_at hl 1 rfl) ?_
  obtain ⟨v1, hv1, hf⟩ := obw hf
  refine g_ald (a := 5) (len := 6) S hK hP (by decide) (xC_arr (by decide) rfl) hv1 dX2_beginning_5 ?_
  exact g_iret S hr hlk hK hP hS (Option.some.inj hf) dX2_beginning_6

set_option maxRecDepth 100000 in
set_option maxHeartbeats 4000000 in
theorem met_X2_setEnd (l : Launch) (D : va_G) (cI cII : ClassId) (κ : Nat → Nat) (hκ : Inj 31 κ) (σ : SX) (p1 : Int32) (p2 : Int32) (p3 : Int32) (σ' : SX) (hf : fn_X2_setEnd σ p1 p2 p3 = some σ') : Met l yX2_setEnd wsX2_setEnd ({ frames := 0, cells := 0, slots := 0, locals := 0 } : Room) (va_Pc [.ref (κ 1), .int p1, .int p2, .int p3] (xP D cI cII κ σ)) (QV D cI cII 31 κ (xC cI cII κ σ')) 0 0 (gA 31 κ) := by
  refine g_enter (cc := cX2_setEnd) (maxL := 5) (ret := none) (by decide) rfl (Nat.le_of_ble_eq_true rfl) ?_
  intro p e s m args below meth c ls S hr hlk _ hB hl
  have S : CallFix p m c cX2_setEnd 5 s args wsX2_setEnd RX2 := S
  obtain ⟨hP, hK⟩ := hB
  have hl : lv_has ls 5 [(0, .ref (κ 1)), (1, .int p1), (2, .int p2), (3, .int p3)] := hl
  have hS : va_S (gA 31 κ) s.heap s.heap [] := va_S.rf
  have hA : ∀ k, k < 31 → gA 31 κ (κ k) := gA_in
  obtain ⟨hx, hb, hml, hown, hts⟩ := id S
  have hiX2 : ∀ w ∈ u_ws RX2 TX2 5, w ∈ wsX2_setEnd := by decide +kernel
  unfold fn_X2_setEnd at hf
  refine lv_aload_n hx hb dX2_setEnd_0 rfl (lv_at hl 0 rfl) ?_
  refine g_get (q := 1) (ci := 2) (k := 1) (ref := RX2) (C := RX2) (T := TX2) (N := 5) (index := 17) (v := .ref (κ 4)) S hK hP hiX2 (by decide) rfl rfl (by decide) rfl (by decide +kernel) rfl dX2_setEnd_1 ?_
  refine lv_iload_n hx hb dX2_setEnd_4 rfl (lv_at hl 2 rfl) ?_
  obtain ⟨r1, hr1, hf⟩ := obw hf
  have br1 : r1 < 6 := (arow_w hr1).2.2
  refine g_aald (q := 4) (b := 13) S hK hP (by decide) rfl hr1 dX2_setEnd_5 ?_
  refine lv_iload_n hx hb dX2_setEnd_6 rfl (lv_at hl 1 rfl) ?_
  refine lv_iload_n hx hb dX2_setEnd_7 rfl (lv_at hl 3 rfl) ?_
  obtain ⟨σ2, hσ2, hf⟩ := obw hf
  refine g_ast (a := (13 + r1)) (len := 12) (f' := (xC cI cII κ σ2)) S hK hP hκ hA hS (by omega) (xC_arr (by omega) (xLen13 br1)) hσ2 (fun j _ => xC_as hσ2 (by omega) (xLen13 br1) j) dX2_setEnd_8 (fun H locs hP hS => ?_)
  refine lv_iconst (v := 1) hx hb dX2_setEnd_9 (by decide) ?_
  refine lv_iload_n hx hb dX2_setEnd_10 rfl (lv_at hl 1 rfl) ?_
  refine lv_ishl hx hb dX2_setEnd_11 ?_
  obtain ⟨v3, ev3, hf⟩ := letb_w hf
  refine lv_nmi ev3 ?_
  refine lv_istore (lv' := [(4, .int v3), (0, .ref (κ 1)), (1, .int p1), (2, .int p2), (3, .int p3)]) hx hb dX2_setEnd_12 hl (by decide) rfl (fun ls hl => ?_)
  refine lv_aload_n hx hb dX2_setEnd_14 rfl (lv_at hl 1 rfl) ?_
  refine g_get (q := 1) (ci := 2) (k := 2) (ref := RX2) (C := RX2) (T := TX2) (N := 5) (index := 20) (v := .ref (κ 5)) S hK hP hiX2 (by decide) rfl rfl (by decide) rfl (by decide +kernel) rfl dX2_setEnd_15 ?_
  refine lv_iload_n hx hb dX2_setEnd_18 rfl (lv_at hl 3 rfl) ?_
  refine lv_iload_n hx hb dX2_setEnd_19 rfl (lv_at hl 4 rfl) ?_
  refine lv_iconst (v := -1) hx hb dX2_setEnd_20 (by decide) ?_
  obtain ⟨K47, hK47, hf⟩ := letb_w hf
  have J47 : ∀ (z2_47 : Int32), K47 z2_47 = some σ' → ∀ (H : Heap) (locs : List Loc) (ls : Array Slot), va_P D vwCl (gw 31 κ (xC cI cII κ σ2)) H → va_S (gA 31 κ) s.heap H locs → lv_has ls 5 [] → W p l e ({ frames := 0, cells := 0, slots := 0, locals := 0 } : Room) s m args below meth c H locs 0 0 (MQ below (QV D cI cII 31 κ (xC cI cII κ σ')) args s 0 0 (gA 31 κ)) (F0 m 47 ls [.int z2_47, .int p2, .ref (κ 5)]) := by
    intro z2_47 hf H locs ls hP hS hl
    rw [hK47] at hf
    obtain ⟨σ4, hσ4, hf⟩ := obw hf
    refine g_ast (a := 5) (len := 6) (f' := (xC cI cII κ σ4)) S hK hP hκ hA hS (by decide) (xC_arr (by decide) rfl) hσ4 (fun j _ => xC_as hσ4 (by decide) rfl j) dX2_setEnd_47 (fun H locs hP hS => ?_)
    obtain rfl := Option.some.inj hf
    exact g_vret S hr hlk hK hP hS dX2_setEnd_48
  refine lv_icmp_ne (tgt := 38) hx hb dX2_setEnd_21 (by decide) (fun c21 => ?_) (fun c21 => ?_)
  · have hf := iteT c21 hf
    refine lv_aload_n hx hb dX2_setEnd_38 rfl (lv_at hl 1 rfl) ?_
    refine g_get (q := 1) (ci := 2) (k := 2) (ref := RX2) (C := RX2) (T := TX2) (N := 5) (index := 20) (v := .ref (κ 5)) S hK hP hiX2 (by decide) rfl rfl (by decide) rfl (by decide +kernel) rfl dX2_setEnd_39 ?_
    refine lv_iload_n hx hb dX2_setEnd_42 rfl (lv_at hl 3 rfl) ?_
    obtain ⟨v5, hv5, hf⟩ := obw hf
    refine g_ald (a := 5) (len := 6) S hK hP (by decide) (xC_arr (by decide) rfl) hv5 dX2_setEnd_43 ?_
    refine lv_iload hx hb dX2_setEnd_44 (lv_at hl 0 rfl) ?_
    refine lv_ior hx hb dX2_setEnd_46 ?_
    exact J47 _ hf _ _ _ hP hS (lv_sub hl [] rfl)
  · have hf := iteN c21 hf
    refine lv_aload_n hx hb dX2_setEnd_24 rfl (lv_at hl 1 rfl) ?_
    refine g_get (q := 1) (ci := 2) (k := 2) (ref := RX2) (C := RX2) (T := TX2) (N := 5) (index := 20) (v := .ref (κ 5)) S hK hP hiX2 (by decide) rfl rfl (by decide) rfl (by decide +kernel) rfl dX2_setEnd_25 ?_
    refine lv_iload_n hx hb dX2_setEnd_28 rfl (lv_at hl 3 rfl) ?_
    obtain ⟨v6, hv6, hf⟩ := obw hf
    refine g_ald (a := 5) (len := 6) S hK hP (by decide) (xC_arr (by decide) rfl) hv6 dX2_setEnd_29 ?_
    refine lv_iload hx hb dX2_setEnd_30 (lv_at hl 0 rfl) ?_
    refine lv_iconst (v := -1) hx hb dX2_setEnd_32 (by decide) ?_
    refine lv_ixor hx hb dX2_setEnd_33 ?_
    refine lv_iand hx hb dX2_setEnd_34 ?_
    refine lv_goto (tgt := 47) hx hb dX2_setEnd_35 (by decide) ?_
    exact J47 _ hf _ _ _ hP hS (lv_sub hl [] rfl)

set_option maxRecDepth 100000 in
set_option maxHeartbeats 4000000 in
theorem met_X2_beginsOfStepsTo (l : Launch) (D : va_G) (cI cII : ClassId) (κ : Nat → Nat) (hκ : Inj 31 κ) (σ : SX) (p1 : Int32) (p2 : Int32) (r : Int32) (hf : fn_X2_beginsOfStepsTo σ p1 p2 = some r) : Met l yX2_beginsOfStepsTo wsX2_beginsOfStepsTo ({ frames := 0, cells := 0, slots := 0, locals := 0 } : Room) (va_Pc [.ref (κ 1), .int p1, .int p2] (xP D cI cII κ σ)) (QI D cI cII 31 κ (xC cI cII κ σ) r) 0 0 (gA 31 κ) := by
  refine g_enter (cc := cX2_beginsOfStepsTo) (maxL := 5) (ret := (some .int)) (by decide) rfl (Nat.le_of_ble_eq_true rfl) ?_
  intro p e s m args below meth c ls S hr hlk _ hB hl
  have S : CallFix p m c cX2_beginsOfStepsTo 5 s args wsX2_beginsOfStepsTo RX2 := S
  obtain ⟨hP, hK⟩ := hB
  have hl : lv_has ls 5 [(0, .ref (κ 1)), (1, .int p1), (2, .int p2)] := hl
  have hS : va_S (gA 31 κ) s.heap s.heap [] := va_S.rf
  have hA : ∀ k, k < 31 → gA 31 κ (κ k) := gA_in
  obtain ⟨hx, hb, hml, hown, hts⟩ := id S
  have hiX2 : ∀ w ∈ u_ws RX2 TX2 5, w ∈ wsX2_beginsOfStepsTo := by decide +kernel
  unfold fn_X2_beginsOfStepsTo at hf
  refine lv_iconst (v := 0) hx hb dX2_beginsOfStepsTo_0 (by decide) ?_
  obtain ⟨v1, ev1, hf⟩ := letb_w hf
  refine lv_nmi ev1 ?_
  refine lv_istore_n (lv' := [(3, .int v1), (0, .ref (κ 1)), (1, .int p1), (2, .int p2)]) hx hb dX2_beginsOfStepsTo_1 rfl hl (by decide) rfl (fun ls hl => ?_)
  refine lv_iconst (v := 0) hx hb dX2_beginsOfStepsTo_2 (by decide) ?_
  obtain ⟨v2, ev2, hf⟩ := letb_w hf
  refine lv_nmi ev2 ?_
  refine lv_istore (lv' := [(4, .int v2), (3, .int v1), (0, .ref (κ 1)), (1, .int p1), (2, .int p2)]) hx hb dX2_beginsOfStepsTo_3 hl (by decide) rfl (fun ls hl => ?_)
  refine loopF_w (P := fun (g : Int32 → Int32 → Option (Int32)) => ∀ (x3_5 : Int32) (x4_5 : Int32), g x3_5 x4_5 = some r → ∀ (H : Heap) (locs : List Loc) (ls : Array Slot), va_P D vwCl (gw 31 κ (xC cI cII κ σ)) H → va_S (gA 31 κ) s.heap H locs → lv_has ls 5 [(0, .ref (κ 1)), (1, .int p1), (2, .int p2), (3, .int x3_5), (4, .int x4_5)] → W p l e ({ frames := 0, cells := 0, slots := 0, locals := 0 } : Room) s m args below meth c H locs 0 0 (MQ below (QI D cI cII 31 κ (xC cI cII κ σ) r) args s 0 0 (gA 31 κ)) (F0 m 5 ls [])) (fun _ _ h => by simp at h) ?_ FU _ _ hf _ _ _ hP hS (lv_sub hl [2, 3, 4, 1, 0] rfl)
  intro rec5 ih5 x3_5 x4_5 hf H locs ls hP hS hl
  unfold bd_X2_beginsOfStepsTo_5 at hf
  refine lv_iload hx hb dX2_beginsOfStepsTo_5 (lv_at hl 4 rfl) ?_
  refine lv_aload_n hx hb dX2_beginsOfStepsTo_7 rfl (lv_at hl 0 rfl) ?_
  refine g_get (q := 1) (ci := 2) (k := 0) (ref := RX2) (C := RX2) (T := TX2) (N := 5) (index := 9) (v := .int ((σ.1 0))) S hK hP hiX2 (by decide) rfl rfl (by decide) rfl (by decide +kernel) rfl dX2_beginsOfStepsTo_8 ?_
  refine lv_icmp_ge (tgt := 40) hx hb dX2_beginsOfStepsTo_11 (by decide) (fun c11 => ?_) (fun c11 => ?_)
  · have hf := iteT c11 hf
    refine lv_iload_n hx hb dX2_beginsOfStepsTo_40 rfl (lv_at hl 3 rfl) ?_
    exact g_iret S hr hlk hK hP hS (Option.some.inj hf) dX2_beginsOfStepsTo_41
  · have hf := iteF c11 hf
    refine lv_aload_n hx hb dX2_beginsOfStepsTo_14 rfl (lv_at hl 0 rfl) ?_
    refine g_get (q := 1) (ci := 2) (k := 1) (ref := RX2) (C := RX2) (T := TX2) (N := 5) (index := 17) (v := .ref (κ 4)) S hK hP hiX2 (by decide) rfl rfl (by decide) rfl (by decide +kernel) rfl dX2_beginsOfStepsTo_15 ?_
    refine lv_iload_n hx hb dX2_beginsOfStepsTo_18 rfl (lv_at hl 2 rfl) ?_
    obtain ⟨r3, hr3, hf⟩ := obw hf
    have br3 : r3 < 6 := (arow_w hr3).2.2
    refine g_aald (q := 4) (b := 13) S hK hP (by decide) rfl hr3 dX2_beginsOfStepsTo_19 ?_
    refine lv_iload hx hb dX2_beginsOfStepsTo_20 (lv_at hl 4 rfl) ?_
    obtain ⟨v4, hv4, hf⟩ := obw hf
    refine g_ald (a := (13 + r3)) (len := 12) S hK hP (by omega) (xC_arr (by omega) (xLen13 br3)) hv4 dX2_beginsOfStepsTo_22 ?_
    refine lv_iload_n hx hb dX2_beginsOfStepsTo_23 rfl (lv_at hl 1 rfl) ?_
    obtain ⟨K34, hK34, hf⟩ := letb_w hf
    have J34 : ∀ (y3_34 : Int32), K34 y3_34 = some r → ∀ (H : Heap) (locs : List Loc) (ls : Array Slot), va_P D vwCl (gw 31 κ (xC cI cII κ σ)) H → va_S (gA 31 κ) s.heap H locs → lv_has ls 5 [(0, .ref (κ 1)), (1, .int p1), (2, .int p2), (3, .int y3_34), (4, .int x4_5)] → W p l e ({ frames := 0, cells := 0, slots := 0, locals := 0 } : Room) s m args below meth c H locs 0 0 (MQ below (QI D cI cII 31 κ (xC cI cII κ σ) r) args s 0 0 (gA 31 κ)) (F0 m 34 ls []) := by
      intro y3_34 hf H locs ls hP hS hl
      rw [hK34] at hf
      obtain ⟨v5, ev5, hf⟩ := letb_w hf
      refine lv_iinc (v := v5) (lv' := [(4, .int v5), (0, .ref (κ 1)), (1, .int p1), (2, .int p2), (3, .int y3_34)]) hx hb dX2_beginsOfStepsTo_34 hl (k := 4) rfl (by rw [ev5]; rfl) (by decide) rfl (fun ls hl => ?_)
      refine lv_goto (tgt := 5) hx hb dX2_beginsOfStepsTo_37 (by decide) ?_
      exact ih5 _ _ hf _ _ _ hP hS (lv_sub hl [1, 2, 3, 4, 0] rfl)
    refine lv_icmp_ne (tgt := 34) hx hb dX2_beginsOfStepsTo_24 (by decide) (fun c24 => ?_) (fun c24 => ?_)
    · have hf := iteT c24 hf
      exact J34 _ hf _ _ _ hP hS (lv_sub hl [0, 1, 2, 3, 4] rfl)
    · have hf := iteN c24 hf
      refine lv_iload_n hx hb dX2_beginsOfStepsTo_27 rfl (lv_at hl 3 rfl) ?_
      refine lv_iconst (v := 1) hx hb dX2_beginsOfStepsTo_28 (by decide) ?_
      refine lv_iload hx hb dX2_beginsOfStepsTo_29 (lv_at hl 4 rfl) ?_
      refine lv_ishl hx hb dX2_beginsOfStepsTo_31 ?_
      refine lv_ior hx hb dX2_beginsOfStepsTo_32 ?_
      obtain ⟨v6, ev6, hf⟩ := letb_w hf
      refine lv_nmi ev6 ?_
      refine lv_istore_n (lv' := [(3, .int v6), (0, .ref (κ 1)), (1, .int p1), (2, .int p2), (4, .int x4_5)]) hx hb dX2_beginsOfStepsTo_33 rfl hl (by decide) rfl (fun ls hl => ?_)
      exact J34 _ hf _ _ _ hP hS (lv_sub hl [1, 2, 3, 0, 4] rfl)

set_option maxRecDepth 100000 in
set_option maxHeartbeats 4000000 in
theorem met_X2_learnHalf (l : Launch) (D : va_G) (cI cII : ClassId) (κ : Nat → Nat) (hκ : Inj 31 κ) (σ : SX) (p1 : Int32) (p2 : Int32) (p3 : Nat) (ha19 : 19 ≤ p3) (ha31 : p3 < 31) (σ' : SX) (hf : fn_X2_learnHalf σ p1 p2 p3 = some σ') : Met l yX2_learnHalf wsX2_learnHalf ({ frames := 1, cells := 0, slots := 0, locals := 24 } : Room) (va_Pc [.ref (κ 1), .int p1, .int p2, .ref (κ p3)] (xP D cI cII κ σ)) (QV D cI cII 31 κ (xC cI cII κ σ')) 0 0 (gA 31 κ) := by
  refine g_enter (cc := cX2_learnHalf) (maxL := 8) (ret := none) (by decide) rfl (Nat.le_of_ble_eq_true rfl) ?_
  intro p e s m args below meth c ls S hr hlk _ hB hl
  have S : CallFix p m c cX2_learnHalf 8 s args wsX2_learnHalf RX2 := S
  obtain ⟨hP, hK⟩ := hB
  have hl : lv_has ls 8 [(0, .ref (κ 1)), (1, .int p1), (2, .int p2), (3, .ref (κ p3))] := hl
  have hS : va_S (gA 31 κ) s.heap s.heap [] := va_S.rf
  have hA : ∀ k, k < 31 → gA 31 κ (κ k) := gA_in
  obtain ⟨hx, hb, hml, hown, hts⟩ := id S
  unfold fn_X2_learnHalf at hf
  refine lv_iconst (v := 0) hx hb dX2_learnHalf_0 (by decide) ?_
  obtain ⟨v1, ev1, hf⟩ := letb_w hf
  refine lv_nmi ev1 ?_
  refine lv_istore (lv' := [(4, .int v1), (0, .ref (κ 1)), (1, .int p1), (2, .int p2), (3, .ref (κ p3))]) hx hb dX2_learnHalf_1 hl (by decide) rfl (fun ls hl => ?_)
  refine loopF_w (P := fun (g : Int32 → SX → Option (SX)) => ∀ (x4_3 : Int32) (σ_3 : SX), g x4_3 σ_3 = some σ' → ∀ (H : Heap) (locs : List Loc) (ls : Array Slot), va_P D vwCl (gw 31 κ (xC cI cII κ σ_3)) H → va_S (gA 31 κ) s.heap H locs → lv_has ls 8 [(0, .ref (κ 1)), (1, .int p1), (2, .int p2), (3, .ref (κ p3)), (4, .int x4_3)] → W p l e ({ frames := 1, cells := 0, slots := 0, locals := 24 } : Room) s m args below meth c H locs 0 0 (MQ below (QV D cI cII 31 κ (xC cI cII κ σ')) args s 0 0 (gA 31 κ)) (F0 m 3 ls [])) (fun _ _ h => by simp at h) ?_ FU _ _ hf _ _ _ hP hS (lv_sub hl [1, 2, 3, 4, 0] rfl)
  intro rec3 ih3 x4_3 σ_3 hf H locs ls hP hS hl
  unfold bd_X2_learnHalf_3 at hf
  refine lv_iload hx hb dX2_learnHalf_3 (lv_at hl 4 rfl) ?_
  refine lv_bipush (v := 6) hx hb dX2_learnHalf_5 (by decide) ?_
  refine lv_icmp_ge (tgt := 63) hx hb dX2_learnHalf_7 (by decide) (fun c7 => ?_) (fun c7 => ?_)
  · have hf := iteT c7 hf
    obtain rfl := Option.some.inj hf
    exact g_vret S hr hlk hK hP hS dX2_learnHalf_63
  · have hf := iteF c7 hf
    refine lv_aload_n hx hb dX2_learnHalf_10 rfl (lv_at hl 0 rfl) ?_
    refine lv_iload_n hx hb dX2_learnHalf_11 rfl (lv_at hl 2 rfl) ?_
    refine lv_iload hx hb dX2_learnHalf_12 (lv_at hl 4 rfl) ?_
    refine lv_iadd hx hb dX2_learnHalf_14 ?_
    refine lv_iload_n hx hb dX2_learnHalf_15 rfl (lv_at hl 1 rfl) ?_
    obtain ⟨v2, hq16, hf⟩ := obw hf
    refine g_calli (va_runV (As := [.int ((p2 + x4_3)), .int p1]) (rest := []) S (met_X2_beginsOfStepsTo l D cI cII κ hκ σ_3 ((p2 + x4_3)) p1 v2 hq16) (cwV 2 S.2.2.2.2 gX2_learnHalf_X2_beginsOfStepsTo rfl rfl rfl (by decide +kernel) ⟨Nat.le_of_ble_eq_true rfl, Nat.le_of_ble_eq_true rfl⟩) (g_preV (N := 5) (T := TX2) hK hP (Nat.le_refl _) (by decide) rfl rfl) rfl rfl hl.1 rfl (lv_room (Nat.le_of_ble_eq_true rfl)) dX2_learnHalf_16 ⟨Nat.le_of_ble_eq_true rfl, Nat.le_of_ble_eq_true rfl⟩) (Nat.le_refl _) hκ hA hP hS (fun j h1 h2 => absurd h2 (Nat.not_lt.mpr h1)) (fun H locs hP hS => ?_)
    obtain ⟨v3, ev3, hf⟩ := letb_w hf
    refine lv_nmi ev3 ?_
    refine lv_istore (lv' := [(5, .int v3), (0, .ref (κ 1)), (1, .int p1), (2, .int p2), (3, .ref (κ p3)), (4, .int x4_3)]) hx hb dX2_learnHalf_19 hl (by decide) rfl (fun ls hl => ?_)
    refine lv_iconst (v := 1) hx hb dX2_learnHalf_21 (by decide) ?_
    refine lv_iload hx hb dX2_learnHalf_22 (lv_at hl 5 rfl) ?_
    refine lv_ishl hx hb dX2_learnHalf_24 ?_
    obtain ⟨v4, ev4, hf⟩ := letb_w hf
    refine lv_nmi ev4 ?_
    refine lv_istore (lv' := [(6, .int v4), (5, .int v3), (0, .ref (κ 1)), (1, .int p1), (2, .int p2), (3, .ref (κ p3)), (4, .int x4_3)]) hx hb dX2_learnHalf_25 hl (by decide) rfl (fun ls hl => ?_)
    refine lv_iconst (v := 0) hx hb dX2_learnHalf_27 (by decide) ?_
    obtain ⟨v5, ev5, hf⟩ := letb_w hf
    refine lv_nmi ev5 ?_
    refine lv_istore (lv' := [(7, .int v5), (6, .int v4), (5, .int v3), (0, .ref (κ 1)), (1, .int p1), (2, .int p2), (3, .ref (κ p3)), (4, .int x4_3)]) hx hb dX2_learnHalf_28 hl (by decide) rfl (fun ls hl => ?_)
    refine loopF_w (P := fun (g : Int32 → SX → Option (SX)) => ∀ (x7_30 : Int32) (σ_30 : SX), g x7_30 σ_30 = some σ' → ∀ (H : Heap) (locs : List Loc) (ls : Array Slot), va_P D vwCl (gw 31 κ (xC cI cII κ σ_30)) H → va_S (gA 31 κ) s.heap H locs → lv_has ls 8 [(0, .ref (κ 1)), (1, .int p1), (2, .int p2), (3, .ref (κ p3)), (4, .int x4_3), (5, .int v3), (6, .int v4), (7, .int x7_30)] → W p l e ({ frames := 1, cells := 0, slots := 0, locals := 24 } : Room) s m args below meth c H locs 0 0 (MQ below (QV D cI cII 31 κ (xC cI cII κ σ')) args s 0 0 (gA 31 κ)) (F0 m 30 ls [])) (fun _ _ h => by simp at h) ?_ FU _ _ hf _ _ _ hP hS (lv_sub hl [3, 4, 5, 6, 7, 2, 1, 0] rfl)
    intro rec30 ih30 x7_30 σ_30 hf H locs ls hP hS hl
    unfold bd_X2_learnHalf_30 at hf
    refine lv_iload hx hb dX2_learnHalf_30 (lv_at hl 7 rfl) ?_
    refine lv_iload hx hb dX2_learnHalf_32 (lv_at hl 6 rfl) ?_
    refine lv_icmp_ge (tgt := 57) hx hb dX2_learnHalf_34 (by decide) (fun c34 => ?_) (fun c34 => ?_)
    · have hf := iteT c34 hf
      obtain ⟨v6, ev6, hf⟩ := letb_w hf
      refine lv_iinc (v := v6) (lv' := [(4, .int v6), (0, .ref (κ 1)), (1, .int p1), (2, .int p2), (3, .ref (κ p3)), (5, .int v3), (6, .int v4), (7, .int x7_30)]) hx hb dX2_learnHalf_57 hl (k := 4) rfl (by rw [ev6]; rfl) (by decide) rfl (fun ls hl => ?_)
      refine lv_goto (tgt := 3) hx hb dX2_learnHalf_60 (by decide) ?_
      exact ih3 _ _ hf _ _ _ hP hS (lv_sub hl [1, 2, 3, 4, 0] rfl)
    · have hf := iteF c34 hf
      refine lv_aload_n hx hb dX2_learnHalf_37 rfl (lv_at hl 3 rfl) ?_
      refine lv_iload hx hb dX2_learnHalf_38 (lv_at hl 6 rfl) ?_
      refine lv_iload hx hb dX2_learnHalf_40 (lv_at hl 7 rfl) ?_
      refine lv_ior hx hb dX2_learnHalf_42 ?_
      refine lv_aload_n hx hb dX2_learnHalf_43 rfl (lv_at hl 3 rfl) ?_
      refine lv_iload hx hb dX2_learnHalf_44 (lv_at hl 7 rfl) ?_
      obtain ⟨v7, hv7, hf⟩ := obw hf
      refine g_ald (a := p3) (len := 64) S hK hP ha31 (xC_arr (Or.inr (by omega)) (xLenS ha19 ha31)) hv7 dX2_learnHalf_46 ?_
      refine lv_iload hx hb dX2_learnHalf_47 (lv_at hl 5 rfl) ?_
      refine lv_ior hx hb dX2_learnHalf_49 ?_
      obtain ⟨σ8, hσ8, hf⟩ := obw hf
      refine g_ast (a := p3) (len := 64) (f' := (xC cI cII κ σ8)) S hK hP hκ hA hS ha31 (xC_arr (Or.inr (by omega)) (xLenS ha19 ha31)) hσ8 (fun j _ => xC_as hσ8 (Or.inr (by omega)) (xLenS ha19 ha31) j) dX2_learnHalf_50 (fun H locs hP hS => ?_)
      obtain ⟨v9, ev9, hf⟩ := letb_w hf
      refine lv_iinc (v := v9) (lv' := [(7, .int v9), (0, .ref (κ 1)), (1, .int p1), (2, .int p2), (3, .ref (κ p3)), (4, .int x4_3), (5, .int v3), (6, .int v4)]) hx hb dX2_learnHalf_51 hl (k := 7) rfl (by rw [ev9]; rfl) (by decide) rfl (fun ls hl => ?_)
      refine lv_goto (tgt := 30) hx hb dX2_learnHalf_54 (by decide) ?_
      exact ih30 _ _ hf _ _ _ hP hS (lv_sub hl [1, 2, 3, 4, 5, 6, 7, 0] rfl)

set_option maxRecDepth 100000 in
set_option maxHeartbeats 4000000 in
theorem met_X2_learnSources (l : Launch) (D : va_G) (cI cII : ClassId) (κ : Nat → Nat) (hκ : Inj 31 κ) (σ : SX) (p1 : Int32) (σ' : SX) (hf : fn_X2_learnSources σ p1 = some σ') : Met l yX2_learnSources wsX2_learnSources ({ frames := 2, cells := 0, slots := 0, locals := 51 } : Room) (va_Pc [.ref (κ 1), .int p1] (xP D cI cII κ σ)) (QV D cI cII 31 κ (xC cI cII κ σ')) 0 0 (gA 31 κ) := by
  refine g_enter (cc := cX2_learnSources) (maxL := 2) (ret := none) (by decide) rfl (Nat.le_of_ble_eq_true rfl) ?_
  intro p e s m args below meth c ls S hr hlk _ hB hl
  have S : CallFix p m c cX2_learnSources 2 s args wsX2_learnSources RX2 := S
  obtain ⟨hP, hK⟩ := hB
  have hl : lv_has ls 2 [(0, .ref (κ 1)), (1, .int p1)] := hl
  have hS : va_S (gA 31 κ) s.heap s.heap [] := va_S.rf
  have hA : ∀ k, k < 31 → gA 31 κ (κ k) := gA_in
  obtain ⟨hx, hb, hml, hown, hts⟩ := id S
  have hiX2 : ∀ w ∈ u_ws RX2 TX2 5, w ∈ wsX2_learnSources := by decide +kernel
  unfold fn_X2_learnSources at hf
  refine lv_aload_n hx hb dX2_learnSources_0 rfl (lv_at hl 0 rfl) ?_
  refine lv_iload_n hx hb dX2_learnSources_1 rfl (lv_at hl 1 rfl) ?_
  refine lv_iconst (v := 0) hx hb dX2_learnSources_2 (by decide) ?_
  refine lv_aload_n hx hb dX2_learnSources_3 rfl (lv_at hl 0 rfl) ?_
  refine g_get (q := 1) (ci := 2) (k := 3) (ref := RX2) (C := RX2) (T := TX2) (N := 5) (index := 24) (v := .ref (κ 6)) S hK hP hiX2 (by decide) rfl rfl (by decide) rfl (by decide +kernel) rfl dX2_learnSources_4 ?_
  refine lv_iload_n hx hb dX2_learnSources_7 rfl (lv_at hl 1 rfl) ?_
  obtain ⟨r1, hr1, hf⟩ := obw hf
  have br1 : r1 < 6 := (arow_w hr1).2.2
  refine g_aald (q := 6) (b := 19) S hK hP (by decide) rfl hr1 dX2_learnSources_8 ?_
  obtain ⟨σ2, hq9, hf⟩ := obw hf
  refine g_callv (va_runV (As := [.int p1, .int 0, .ref (κ (19 + r1))]) (rest := []) S (met_X2_learnHalf l D cI cII κ hκ σ p1 0 (19 + r1) (by omega) (by omega) σ2 hq9) (cwV 3 S.2.2.2.2 gX2_learnSources_X2_learnHalf rfl rfl rfl (by decide +kernel) ⟨Nat.le_of_ble_eq_true rfl, Nat.le_of_ble_eq_true rfl⟩) (g_preV (N := 5) (T := TX2) hK hP (Nat.le_refl _) (by decide) rfl rfl) rfl rfl hl.1 rfl (lv_room (Nat.le_of_ble_eq_true rfl)) dX2_learnSources_9 ⟨Nat.le_of_ble_eq_true rfl, Nat.le_of_ble_eq_true rfl⟩) (Nat.le_refl _) hκ hA hP hS (fun j h1 h2 => absurd h2 (Nat.not_lt.mpr h1)) (fun H locs hP hS => ?_)
  refine lv_aload_n hx hb dX2_learnSources_12 rfl (lv_at hl 0 rfl) ?_
  refine lv_iload_n hx hb dX2_learnSources_13 rfl (lv_at hl 1 rfl) ?_
  refine lv_bipush (v := 6) hx hb dX2_learnSources_14 (by decide) ?_
  refine lv_aload_n hx hb dX2_learnSources_16 rfl (lv_at hl 0 rfl) ?_
  refine g_get (q := 1) (ci := 2) (k := 4) (ref := RX2) (C := RX2) (T := TX2) (N := 5) (index := 27) (v := .ref (κ 7)) S hK hP hiX2 (by decide) rfl rfl (by decide) rfl (by decide +kernel) rfl dX2_learnSources_17 ?_
  refine lv_iload_n hx hb dX2_learnSources_20 rfl (lv_at hl 1 rfl) ?_
  obtain ⟨r3, hr3, hf⟩ := obw hf
  have br3 : r3 < 6 := (arow_w hr3).2.2
  refine g_aald (q := 7) (b := 25) S hK hP (by decide) rfl hr3 dX2_learnSources_21 ?_
  obtain ⟨σ4, hq22, hf⟩ := obw hf
  refine g_callv (va_runV (As := [.int p1, .int 6, .ref (κ (25 + r3))]) (rest := []) S (met_X2_learnHalf l D cI cII κ hκ σ2 p1 6 (25 + r3) (by omega) (by omega) σ4 hq22) (cwV 3 S.2.2.2.2 gX2_learnSources_X2_learnHalf rfl rfl rfl (by decide +kernel) ⟨Nat.le_of_ble_eq_true rfl, Nat.le_of_ble_eq_true rfl⟩) (g_preV (N := 5) (T := TX2) hK hP (Nat.le_refl _) (by decide) rfl rfl) rfl rfl hl.1 rfl (lv_room (Nat.le_of_ble_eq_true rfl)) dX2_learnSources_22 ⟨Nat.le_of_ble_eq_true rfl, Nat.le_of_ble_eq_true rfl⟩) (Nat.le_refl _) hκ hA hP hS (fun j h1 h2 => absurd h2 (Nat.not_lt.mpr h1)) (fun H locs hP hS => ?_)
  obtain rfl := Option.some.inj hf
  exact g_vret S hr hlk hK hP hS dX2_learnSources_25

set_option maxRecDepth 100000 in
set_option maxHeartbeats 4000000 in
theorem met_X2_put (l : Launch) (D : va_G) (cI cII : ClassId) (κ : Nat → Nat) (hκ : Inj 31 κ) (σ : SX) (p1 : Int32) (p2 : Int32) (p3 : Int32) (σ' : SX) (hf : fn_X2_put σ p1 p2 p3 = some σ') : Met l yX2_put wsX2_put ({ frames := 3, cells := 0, slots := 0, locals := 72 } : Room) (va_Pc [.ref (κ 1), .int p1, .int p2, .int p3] (xP D cI cII κ σ)) (QV D cI cII 31 κ (xC cI cII κ σ')) 0 0 (gA 31 κ) := by
  refine g_enter (cc := cX2_put) (maxL := 4) (ret := none) (by decide) rfl (Nat.le_of_ble_eq_true rfl) ?_
  intro p e s m args below meth c ls S hr hlk _ hB hl
  have S : CallFix p m c cX2_put 4 s args wsX2_put RX2 := S
  obtain ⟨hP, hK⟩ := hB
  have hl : lv_has ls 4 [(0, .ref (κ 1)), (1, .int p1), (2, .int p2), (3, .int p3)] := hl
  have hS : va_S (gA 31 κ) s.heap s.heap [] := va_S.rf
  have hA : ∀ k, k < 31 → gA 31 κ (κ k) := gA_in
  obtain ⟨hx, hb, hml, hown, hts⟩ := id S
  unfold fn_X2_put at hf
  refine lv_aload_n hx hb dX2_put_0 rfl (lv_at hl 0 rfl) ?_
  refine lv_iload_n hx hb dX2_put_1 rfl (lv_at hl 1 rfl) ?_
  refine lv_iload_n hx hb dX2_put_2 rfl (lv_at hl 2 rfl) ?_
  refine lv_iload_n hx hb dX2_put_3 rfl (lv_at hl 3 rfl) ?_
  obtain ⟨σ1, hq4, hf⟩ := obw hf
  refine g_callv (va_runV (As := [.int p1, .int p2, .int p3]) (rest := []) S (met_X2_setEnd l D cI cII κ hκ σ p1 p2 p3 σ1 hq4) (cwV 3 S.2.2.2.2 gX2_put_X2_setEnd rfl rfl rfl (by decide +kernel) ⟨Nat.le_of_ble_eq_true rfl, Nat.le_of_ble_eq_true rfl⟩) (g_preV (N := 5) (T := TX2) hK hP (Nat.le_refl _) (by decide) rfl rfl) rfl rfl hl.1 rfl (lv_room (Nat.le_of_ble_eq_true rfl)) dX2_put_4 ⟨Nat.le_of_ble_eq_true rfl, Nat.le_of_ble_eq_true rfl⟩) (Nat.le_refl _) hκ hA hP hS (fun j h1 h2 => absurd h2 (Nat.not_lt.mpr h1)) (fun H locs hP hS => ?_)
  refine lv_aload_n hx hb dX2_put_7 rfl (lv_at hl 0 rfl) ?_
  refine lv_iload_n hx hb dX2_put_8 rfl (lv_at hl 2 rfl) ?_
  obtain ⟨σ2, hq9, hf⟩ := obw hf
  refine g_callv (va_runV (As := [.int p2]) (rest := []) S (met_X2_learnSources l D cI cII κ hκ σ1 p2 σ2 hq9) (cwV 1 S.2.2.2.2 gX2_put_X2_learnSources rfl rfl rfl (by decide +kernel) ⟨Nat.le_of_ble_eq_true rfl, Nat.le_of_ble_eq_true rfl⟩) (g_preV (N := 5) (T := TX2) hK hP (Nat.le_refl _) (by decide) rfl rfl) rfl rfl hl.1 rfl (lv_room (Nat.le_of_ble_eq_true rfl)) dX2_put_9 ⟨Nat.le_of_ble_eq_true rfl, Nat.le_of_ble_eq_true rfl⟩) (Nat.le_refl _) hκ hA hP hS (fun j h1 h2 => absurd h2 (Nat.not_lt.mpr h1)) (fun H locs hP hS => ?_)
  obtain rfl := Option.some.inj hf
  exact g_vret S hr hlk hK hP hS dX2_put_12

set_option maxRecDepth 100000 in
set_option maxHeartbeats 4000000 in
theorem met_X2_way (l : Launch) (D : va_G) (cI cII : ClassId) (κ : Nat → Nat) (hκ : Inj 31 κ) (σ : SX) (p1 : Int32) (p2 : Int32) (r : Int32) (hf : fn_X2_way σ p1 p2 = some r) : Met l yX2_way wsX2_way ({ frames := 0, cells := 0, slots := 0, locals := 0 } : Room) (va_Pc [.ref (κ 1), .int p1, .int p2] (xP D cI cII κ σ)) (QI D cI cII 31 κ (xC cI cII κ σ) r) 0 0 (gA 31 κ) := by
  refine g_enter (cc := cX2_way) (maxL := 6) (ret := (some .int)) (by decide) rfl (Nat.le_of_ble_eq_true rfl) ?_
  intro p e s m args below meth c ls S hr hlk _ hB hl
  have S : CallFix p m c cX2_way 6 s args wsX2_way RX2 := S
  obtain ⟨hP, hK⟩ := hB
  have hl : lv_has ls 6 [(0, .ref (κ 1)), (1, .int p1), (2, .int p2)] := hl
  have hS : va_S (gA 31 κ) s.heap s.heap [] := va_S.rf
  have hA : ∀ k, k < 31 → gA 31 κ (κ k) := gA_in
  obtain ⟨hx, hb, hml, hown, hts⟩ := id S
  have hiX2 : ∀ w ∈ u_ws RX2 TX2 5, w ∈ wsX2_way := by decide +kernel
  unfold fn_X2_way at hf
  refine lv_aload_n hx hb dX2_way_0 rfl (lv_at hl 0 rfl) ?_
  refine g_get (q := 1) (ci := 2) (k := 2) (ref := RX2) (C := RX2) (T := TX2) (N := 5) (index := 20) (v := .ref (κ 5)) S hK hP hiX2 (by decide) rfl rfl (by decide) rfl (by decide +kernel) rfl dX2_way_1 ?_
  refine lv_iload_n hx hb dX2_way_4 rfl (lv_at hl 2 rfl) ?_
  obtain ⟨v1, hv1, hf⟩ := obw hf
  refine g_ald (a := 5) (len := 6) S hK hP (by decide) (xC_arr (by decide) rfl) hv1 dX2_way_5 ?_
  obtain ⟨v2, ev2, hf⟩ := letb_w hf
  refine lv_nmi ev2 ?_
  refine lv_istore_n (lv' := [(3, .int v2), (0, .ref (κ 1)), (1, .int p1), (2, .int p2)]) hx hb dX2_way_6 rfl hl (by decide) rfl (fun ls hl => ?_)
  refine lv_iload_n hx hb dX2_way_7 rfl (lv_at hl 0 rfl) ?_
  refine lv_iload_n hx hb dX2_way_8 rfl (lv_at hl 2 rfl) ?_
  refine lv_iand hx hb dX2_way_9 ?_
  obtain ⟨v3, ev3, hf⟩ := letb_w hf
  refine lv_nmi ev3 ?_
  refine lv_istore (lv' := [(4, .int v3), (3, .int v2), (0, .ref (κ 1)), (1, .int p1), (2, .int p2)]) hx hb dX2_way_10 hl (by decide) rfl (fun ls hl => ?_)
  refine lv_aload_n hx hb dX2_way_12 rfl (lv_at hl 2 rfl) ?_
  refine g_get (q := 1) (ci := 2) (k := 3) (ref := RX2) (C := RX2) (T := TX2) (N := 5) (index := 24) (v := .ref (κ 6)) S hK hP hiX2 (by decide) rfl rfl (by decide) rfl (by decide +kernel) rfl dX2_way_13 ?_
  refine lv_iload_n hx hb dX2_way_16 rfl (lv_at hl 4 rfl) ?_
  obtain ⟨r4, hr4, hf⟩ := obw hf
  have br4 : r4 < 6 := (arow_w hr4).2.2
  refine g_aald (q := 6) (b := 19) S hK hP (by decide) rfl hr4 dX2_way_17 ?_
  refine lv_iload_n hx hb dX2_way_18 rfl (lv_at hl 3 rfl) ?_
  refine lv_bipush (v := 63) hx hb dX2_way_19 (by decide) ?_
  refine lv_iand hx hb dX2_way_21 ?_
  obtain ⟨v5, hv5, hf⟩ := obw hf
  refine g_ald (a := (19 + r4)) (len := 64) S hK hP (by omega) (xC_arr (by omega) (xLen19 br4)) hv5 dX2_way_22 ?_
  refine lv_aload_n hx hb dX2_way_23 rfl (lv_at hl 2 rfl) ?_
  refine g_get (q := 1) (ci := 2) (k := 4) (ref := RX2) (C := RX2) (T := TX2) (N := 5) (index := 27) (v := .ref (κ 7)) S hK hP hiX2 (by decide) rfl rfl (by decide) rfl (by decide +kernel) rfl dX2_way_24 ?_
  refine lv_iload_n hx hb dX2_way_27 rfl (lv_at hl 4 rfl) ?_
  obtain ⟨r6, hr6, hf⟩ := obw hf
  have br6 : r6 < 6 := (arow_w hr6).2.2
  refine g_aald (q := 7) (b := 25) S hK hP (by decide) rfl hr6 dX2_way_28 ?_
  refine lv_iload_n hx hb dX2_way_29 rfl (lv_at hl 3 rfl) ?_
  refine lv_bipush (v := 6) hx hb dX2_way_30 (by decide) ?_
  refine lv_ishr hx hb dX2_way_32 ?_
  refine lv_bipush (v := 63) hx hb dX2_way_33 (by decide) ?_
  refine lv_iand hx hb dX2_way_35 ?_
  obtain ⟨v7, hv7, hf⟩ := obw hf
  refine g_ald (a := (25 + r6)) (len := 64) S hK hP (by omega) (xC_arr (by omega) (xLen25 br6)) hv7 dX2_way_36 ?_
  refine lv_ior hx hb dX2_way_37 ?_
  obtain ⟨v8, ev8, hf⟩ := letb_w hf
  refine lv_nmi ev8 ?_
  refine lv_istore (lv' := [(5, .int v8), (4, .int v3), (3, .int v2), (0, .ref (κ 1)), (1, .int p1), (2, .int p2)]) hx hb dX2_way_38 hl (by decide) rfl (fun ls hl => ?_)
  refine lv_iload hx hb dX2_way_40 (lv_at hl 1 rfl) ?_
  refine lv_iload hx hb dX2_way_42 (lv_at hl 0 rfl) ?_
  refine lv_icmp_ne (tgt := 49) hx hb dX2_way_44 (by decide) (fun c44 => ?_) (fun c44 => ?_)
  · have hf := iteT c44 hf
    refine lv_iload hx hb dX2_way_49 (lv_at hl 1 rfl) ?_
    obtain ⟨K62, hK62, hf⟩ := letb_w hf
    have J62 : ∀ (_u : Unit), K62 _u = some r → ∀ (H : Heap) (locs : List Loc) (ls : Array Slot), va_P D vwCl (gw 31 κ (xC cI cII κ σ)) H → va_S (gA 31 κ) s.heap H locs → lv_has ls 6 [(3, .int v2), (4, .int v3), (5, .int v8)] → W p l e ({ frames := 0, cells := 0, slots := 0, locals := 0 } : Room) s m args below meth c H locs 0 0 (MQ below (QI D cI cII 31 κ (xC cI cII κ σ) r) args s 0 0 (gA 31 κ)) (F0 m 62 ls []) := by
      intro _u hf H locs ls hP hS hl
      rw [hK62] at hf
      refine lv_iload hx hb dX2_way_62 (lv_at hl 2 rfl) ?_
      obtain ⟨K75, hK75, hf⟩ := letb_w hf
      have J75 : ∀ (_u : Unit), K75 _u = some r → ∀ (H : Heap) (locs : List Loc) (ls : Array Slot), va_P D vwCl (gw 31 κ (xC cI cII κ σ)) H → va_S (gA 31 κ) s.heap H locs → lv_has ls 6 [] → W p l e ({ frames := 0, cells := 0, slots := 0, locals := 0 } : Room) s m args below meth c H locs 0 0 (MQ below (QI D cI cII 31 κ (xC cI cII κ σ) r) args s 0 0 (gA 31 κ)) (F0 m 75 ls []) := by
        intro _u hf H locs ls hP hS hl
        rw [hK75] at hf
        refine lv_iconst (v := 3) hx hb dX2_way_75 (by decide) ?_
        exact g_iret S hr hlk hK hP hS (Option.some.inj hf) dX2_way_76
      refine lv_if_ne (tgt := 75) hx hb dX2_way_64 (by decide) (fun c64 => ?_) (fun c64 => ?_)
      · have hf := iteT c64 hf
        exact J75 _ hf _ _ _ hP hS (lv_sub hl [] rfl)
      · have hf := iteN c64 hf
        refine lv_iload hx hb dX2_way_67 (lv_at hl 1 rfl) ?_
        refine lv_iload_n hx hb dX2_way_69 rfl (lv_at hl 0 rfl) ?_
        refine lv_icmp_ne (tgt := 75) hx hb dX2_way_70 (by decide) (fun c70 => ?_) (fun c70 => ?_)
        · have hf := iteT c70 hf
          exact J75 _ hf _ _ _ hP hS (lv_sub hl [] rfl)
        · have hf := iteN c70 hf
          refine lv_iconst (v := 2) hx hb dX2_way_73 (by decide) ?_
          exact g_iret S hr hlk hK hP hS (Option.some.inj hf) dX2_way_74
    refine lv_if_ne (tgt := 62) hx hb dX2_way_51 (by decide) (fun c51 => ?_) (fun c51 => ?_)
    · have hf := iteT c51 hf
      exact J62 _ hf _ _ _ hP hS (lv_sub hl [2, 1, 0] rfl)
    · have hf := iteN c51 hf
      refine lv_iload hx hb dX2_way_54 (lv_at hl 0 rfl) ?_
      refine lv_iload_n hx hb dX2_way_56 rfl (lv_at hl 2 rfl) ?_
      refine lv_icmp_ne (tgt := 62) hx hb dX2_way_57 (by decide) (fun c57 => ?_) (fun c57 => ?_)
      · have hf := iteT c57 hf
        exact J62 _ hf _ _ _ hP hS (lv_sub hl [2, 1, 0] rfl)
      · have hf := iteN c57 hf
        refine lv_iconst (v := 1) hx hb dX2_way_60 (by decide) ?_
        exact g_iret S hr hlk hK hP hS (Option.some.inj hf) dX2_way_61
  · have hf := iteN c44 hf
    refine lv_iconst (v := 0) hx hb dX2_way_47 (by decide) ?_
    exact g_iret S hr hlk hK hP hS (Option.some.inj hf) dX2_way_48

set_option maxRecDepth 100000 in
set_option maxHeartbeats 4000000 in
theorem met_X2_firstMixed (l : Launch) (D : va_G) (cI cII : ClassId) (κ : Nat → Nat) (hκ : Inj 31 κ) (σ : SX) (p1 : Int32) (r : Int32) (hf : fn_X2_firstMixed σ p1 = some r) : Met l yX2_firstMixed wsX2_firstMixed ({ frames := 1, cells := 0, slots := 0, locals := 25 } : Room) (va_Pc [.ref (κ 1), .int p1] (xP D cI cII κ σ)) (QI D cI cII 31 κ (xC cI cII κ σ) r) 0 0 (gA 31 κ) := by
  refine g_enter (cc := cX2_firstMixed) (maxL := 3) (ret := (some .int)) (by decide) rfl (Nat.le_of_ble_eq_true rfl) ?_
  intro p e s m args below meth c ls S hr hlk _ hB hl
  have S : CallFix p m c cX2_firstMixed 3 s args wsX2_firstMixed RX2 := S
  obtain ⟨hP, hK⟩ := hB
  have hl : lv_has ls 3 [(0, .ref (κ 1)), (1, .int p1)] := hl
  have hS : va_S (gA 31 κ) s.heap s.heap [] := va_S.rf
  have hA : ∀ k, k < 31 → gA 31 κ (κ k) := gA_in
  obtain ⟨hx, hb, hml, hown, hts⟩ := id S
  unfold fn_X2_firstMixed at hf
  refine lv_iconst (v := 0) hx hb dX2_firstMixed_0 (by decide) ?_
  obtain ⟨v1, ev1, hf⟩ := letb_w hf
  refine lv_nmi ev1 ?_
  refine lv_istore_n (lv' := [(2, .int v1), (0, .ref (κ 1)), (1, .int p1)]) hx hb dX2_firstMixed_1 rfl hl (by decide) rfl (fun ls hl => ?_)
  refine loopF_w (P := fun (g : Int32 → Option (Int32)) => ∀ (x2_2 : Int32), g x2_2 = some r → ∀ (H : Heap) (locs : List Loc) (ls : Array Slot), va_P D vwCl (gw 31 κ (xC cI cII κ σ)) H → va_S (gA 31 κ) s.heap H locs → lv_has ls 3 [(0, .ref (κ 1)), (1, .int p1), (2, .int x2_2)] → W p l e ({ frames := 1, cells := 0, slots := 0, locals := 25 } : Room) s m args below meth c H locs 0 0 (MQ below (QI D cI cII 31 κ (xC cI cII κ σ) r) args s 0 0 (gA 31 κ)) (F0 m 2 ls [])) (fun _ h => by simp at h) ?_ FU _ hf _ _ _ hP hS (lv_sub hl [1, 2, 0] rfl)
  intro rec2 ih2 x2_2 hf H locs ls hP hS hl
  unfold bd_X2_firstMixed_2 at hf
  refine lv_iload_n hx hb dX2_firstMixed_2 rfl (lv_at hl 2 rfl) ?_
  refine lv_bipush (v := 6) hx hb dX2_firstMixed_3 (by decide) ?_
  refine lv_icmp_ge (tgt := 26) hx hb dX2_firstMixed_5 (by decide) (fun c5 => ?_) (fun c5 => ?_)
  · have hf := iteT c5 hf
    refine lv_iconst (v := -1) hx hb dX2_firstMixed_26 (by decide) ?_
    exact g_iret S hr hlk hK hP hS (Option.some.inj hf) dX2_firstMixed_27
  · have hf := iteF c5 hf
    refine lv_aload_n hx hb dX2_firstMixed_8 rfl (lv_at hl 0 rfl) ?_
    refine lv_iload_n hx hb dX2_firstMixed_9 rfl (lv_at hl 1 rfl) ?_
    refine lv_iload_n hx hb dX2_firstMixed_10 rfl (lv_at hl 2 rfl) ?_
    obtain ⟨v2, hq11, hf⟩ := obw hf
    refine g_calli (va_runV (As := [.int p1, .int x2_2]) (rest := []) S (met_X2_way l D cI cII κ hκ σ p1 x2_2 v2 hq11) (cwV 2 S.2.2.2.2 gX2_firstMixed_X2_way rfl rfl rfl (by decide +kernel) ⟨Nat.le_of_ble_eq_true rfl, Nat.le_of_ble_eq_true rfl⟩) (g_preV (N := 5) (T := TX2) hK hP (Nat.le_refl _) (by decide) rfl rfl) rfl rfl hl.1 rfl (lv_room (Nat.le_of_ble_eq_true rfl)) dX2_firstMixed_11 ⟨Nat.le_of_ble_eq_true rfl, Nat.le_of_ble_eq_true rfl⟩) (Nat.le_refl _) hκ hA hP hS (fun j h1 h2 => absurd h2 (Nat.not_lt.mpr h1)) (fun H locs hP hS => ?_)
    refine lv_iconst (v := 3) hx hb dX2_firstMixed_14 (by decide) ?_
    refine lv_icmp_ne (tgt := 20) hx hb dX2_firstMixed_15 (by decide) (fun c15 => ?_) (fun c15 => ?_)
    · have hf := iteT c15 hf
      obtain ⟨v3, ev3, hf⟩ := letb_w hf
      refine lv_iinc (v := v3) (lv' := [(2, .int v3), (0, .ref (κ 1)), (1, .int p1)]) hx hb dX2_firstMixed_20 hl (k := 2) rfl (by rw [ev3]; rfl) (by decide) rfl (fun ls hl => ?_)
      refine lv_goto (tgt := 2) hx hb dX2_firstMixed_23 (by decide) ?_
      exact ih2 _ hf _ _ _ hP hS (lv_sub hl [1, 2, 0] rfl)
    · have hf := iteN c15 hf
      refine lv_iload_n hx hb dX2_firstMixed_18 rfl (lv_at hl 2 rfl) ?_
      exact g_iret S hr hlk hK hP hS (Option.some.inj hf) dX2_firstMixed_19

set_option maxRecDepth 100000 in
set_option maxHeartbeats 4000000 in
theorem met_X2_endsOf (l : Launch) (D : va_G) (cI cII : ClassId) (κ : Nat → Nat) (hκ : Inj 31 κ) (σ : SX) (p1 : Int32) (r : Int32) (hf : fn_X2_endsOf σ p1 = some r) : Met l yX2_endsOf wsX2_endsOf ({ frames := 0, cells := 0, slots := 0, locals := 0 } : Room) (va_Pc [.ref (κ 1), .int p1] (xP D cI cII κ σ)) (QI D cI cII 31 κ (xC cI cII κ σ) r) 0 0 (gA 31 κ) := by
  refine g_enter (cc := cX2_endsOf) (maxL := 5) (ret := (some .int)) (by decide) rfl (Nat.le_of_ble_eq_true rfl) ?_
  intro p e s m args below meth c ls S hr hlk _ hB hl
  have S : CallFix p m c cX2_endsOf 5 s args wsX2_endsOf RX2 := S
  obtain ⟨hP, hK⟩ := hB
  have hl : lv_has ls 5 [(0, .ref (κ 1)), (1, .int p1)] := hl
  have hS : va_S (gA 31 κ) s.heap s.heap [] := va_S.rf
  have hA : ∀ k, k < 31 → gA 31 κ (κ k) := gA_in
  obtain ⟨hx, hb, hml, hown, hts⟩ := id S
  have hiX2 : ∀ w ∈ u_ws RX2 TX2 5, w ∈ wsX2_endsOf := by decide +kernel
  unfold fn_X2_endsOf at hf
  refine lv_iconst (v := 0) hx hb dX2_endsOf_0 (by decide) ?_
  obtain ⟨v1, ev1, hf⟩ := letb_w hf
  refine lv_nmi ev1 ?_
  refine lv_istore_n (lv' := [(2, .int v1), (0, .ref (κ 1)), (1, .int p1)]) hx hb dX2_endsOf_1 rfl hl (by decide) rfl (fun ls hl => ?_)
  refine lv_iconst (v := 0) hx hb dX2_endsOf_2 (by decide) ?_
  obtain ⟨v2, ev2, hf⟩ := letb_w hf
  refine lv_nmi ev2 ?_
  refine lv_istore_n (lv' := [(3, .int v2), (2, .int v1), (0, .ref (κ 1)), (1, .int p1)]) hx hb dX2_endsOf_3 rfl hl (by decide) rfl (fun ls hl => ?_)
  refine loopF_w (P := fun (g : Int32 → Int32 → Option (Int32)) => ∀ (x2_4 : Int32) (x3_4 : Int32), g x2_4 x3_4 = some r → ∀ (H : Heap) (locs : List Loc) (ls : Array Slot), va_P D vwCl (gw 31 κ (xC cI cII κ σ)) H → va_S (gA 31 κ) s.heap H locs → lv_has ls 5 [(0, .ref (κ 1)), (1, .int p1), (2, .int x2_4), (3, .int x3_4)] → W p l e ({ frames := 0, cells := 0, slots := 0, locals := 0 } : Room) s m args below meth c H locs 0 0 (MQ below (QI D cI cII 31 κ (xC cI cII κ σ) r) args s 0 0 (gA 31 κ)) (F0 m 4 ls [])) (fun _ _ h => by simp at h) ?_ FU _ _ hf _ _ _ hP hS (lv_sub hl [2, 3, 1, 0] rfl)
  intro rec4 ih4 x2_4 x3_4 hf H locs ls hP hS hl
  unfold bd_X2_endsOf_4 at hf
  refine lv_iload_n hx hb dX2_endsOf_4 rfl (lv_at hl 3 rfl) ?_
  refine lv_aload_n hx hb dX2_endsOf_5 rfl (lv_at hl 0 rfl) ?_
  refine g_get (q := 1) (ci := 2) (k := 0) (ref := RX2) (C := RX2) (T := TX2) (N := 5) (index := 9) (v := .int ((σ.1 0))) S hK hP hiX2 (by decide) rfl rfl (by decide) rfl (by decide +kernel) rfl dX2_endsOf_6 ?_
  refine lv_icmp_ge (tgt := 41) hx hb dX2_endsOf_9 (by decide) (fun c9 => ?_) (fun c9 => ?_)
  · have hf := iteT c9 hf
    refine lv_iload_n hx hb dX2_endsOf_41 rfl (lv_at hl 2 rfl) ?_
    exact g_iret S hr hlk hK hP hS (Option.some.inj hf) dX2_endsOf_42
  · have hf := iteF c9 hf
    refine lv_aload_n hx hb dX2_endsOf_12 rfl (lv_at hl 0 rfl) ?_
    refine g_get (q := 1) (ci := 2) (k := 1) (ref := RX2) (C := RX2) (T := TX2) (N := 5) (index := 17) (v := .ref (κ 4)) S hK hP hiX2 (by decide) rfl rfl (by decide) rfl (by decide +kernel) rfl dX2_endsOf_13 ?_
    refine lv_iload_n hx hb dX2_endsOf_16 rfl (lv_at hl 1 rfl) ?_
    obtain ⟨r3, hr3, hf⟩ := obw hf
    have br3 : r3 < 6 := (arow_w hr3).2.2
    refine g_aald (q := 4) (b := 13) S hK hP (by decide) rfl hr3 dX2_endsOf_17 ?_
    refine lv_iload_n hx hb dX2_endsOf_18 rfl (lv_at hl 3 rfl) ?_
    obtain ⟨v4, hv4, hf⟩ := obw hf
    refine g_ald (a := (13 + r3)) (len := 12) S hK hP (by omega) (xC_arr (by omega) (xLen13 br3)) hv4 dX2_endsOf_19 ?_
    obtain ⟨v5, ev5, hf⟩ := letb_w hf
    refine lv_nmi ev5 ?_
    refine lv_istore (lv' := [(4, .int v5), (0, .ref (κ 1)), (1, .int p1), (2, .int x2_4), (3, .int x3_4)]) hx hb dX2_endsOf_20 hl (by decide) rfl (fun ls hl => ?_)
    refine lv_iload hx hb dX2_endsOf_22 (lv_at hl 0 rfl) ?_
    refine lv_iconst (v := -1) hx hb dX2_endsOf_24 (by decide) ?_
    obtain ⟨K35, hK35, hf⟩ := letb_w hf
    have J35 : ∀ (y2_35 : Int32), K35 y2_35 = some r → ∀ (H : Heap) (locs : List Loc) (ls : Array Slot), va_P D vwCl (gw 31 κ (xC cI cII κ σ)) H → va_S (gA 31 κ) s.heap H locs → lv_has ls 5 [(0, .ref (κ 1)), (1, .int p1), (2, .int y2_35), (3, .int x3_4)] → W p l e ({ frames := 0, cells := 0, slots := 0, locals := 0 } : Room) s m args below meth c H locs 0 0 (MQ below (QI D cI cII 31 κ (xC cI cII κ σ) r) args s 0 0 (gA 31 κ)) (F0 m 35 ls []) := by
      intro y2_35 hf H locs ls hP hS hl
      rw [hK35] at hf
      obtain ⟨v6, ev6, hf⟩ := letb_w hf
      refine lv_iinc (v := v6) (lv' := [(3, .int v6), (0, .ref (κ 1)), (1, .int p1), (2, .int y2_35)]) hx hb dX2_endsOf_35 hl (k := 3) rfl (by rw [ev6]; rfl) (by decide) rfl (fun ls hl => ?_)
      refine lv_goto (tgt := 4) hx hb dX2_endsOf_38 (by decide) ?_
      exact ih4 _ _ hf _ _ _ hP hS (lv_sub hl [1, 2, 3, 0] rfl)
    refine lv_icmp_eq (tgt := 35) hx hb dX2_endsOf_25 (by decide) (fun c25 => ?_) (fun c25 => ?_)
    · have hf := iteT c25 hf
      exact J35 _ hf _ _ _ hP hS (lv_sub hl [1, 2, 3, 4] rfl)
    · have hf := iteF c25 hf
      refine lv_iload_n hx hb dX2_endsOf_28 rfl (lv_at hl 3 rfl) ?_
      refine lv_iconst (v := 1) hx hb dX2_endsOf_29 (by decide) ?_
      refine lv_iload hx hb dX2_endsOf_30 (lv_at hl 0 rfl) ?_
      refine lv_ishl hx hb dX2_endsOf_32 ?_
      refine lv_ior hx hb dX2_endsOf_33 ?_
      obtain ⟨v7, ev7, hf⟩ := letb_w hf
      refine lv_nmi ev7 ?_
      refine lv_istore_n (lv' := [(2, .int v7), (4, .int v5), (0, .ref (κ 1)), (1, .int p1), (3, .int x3_4)]) hx hb dX2_endsOf_34 rfl hl (by decide) rfl (fun ls hl => ?_)
      exact J35 _ hf _ _ _ hP hS (lv_sub hl [2, 3, 0, 4] rfl)

set_option maxRecDepth 100000 in
set_option maxHeartbeats 4000000 in
theorem met_X2_growth (l : Launch) (D : va_G) (cI cII : ClassId) (κ : Nat → Nat) (hκ : Inj 31 κ) (σ : SX) (p1 : Int32) (p2 : Int32) (r : Int32) (hf : fn_X2_growth σ p1 p2 = some r) : Met l yX2_growth wsX2_growth ({ frames := 1, cells := 0, slots := 0, locals := 24 } : Room) (va_Pc [.ref (κ 1), .int p1, .int p2] (xP D cI cII κ σ)) (QI D cI cII 31 κ (xC cI cII κ σ) r) 0 0 (gA 31 κ) := by
  refine g_enter (cc := cX2_growth) (maxL := 5) (ret := (some .int)) (by decide) rfl (Nat.le_of_ble_eq_true rfl) ?_
  intro p e s m args below meth c ls S hr hlk _ hB hl
  have S : CallFix p m c cX2_growth 5 s args wsX2_growth RX2 := S
  obtain ⟨hP, hK⟩ := hB
  have hl : lv_has ls 5 [(0, .ref (κ 1)), (1, .int p1), (2, .int p2)] := hl
  have hS : va_S (gA 31 κ) s.heap s.heap [] := va_S.rf
  have hA : ∀ k, k < 31 → gA 31 κ (κ k) := gA_in
  obtain ⟨hx, hb, hml, hown, hts⟩ := id S
  have hiX2 : ∀ w ∈ u_ws RX2 TX2 5, w ∈ wsX2_growth := by decide +kernel
  unfold fn_X2_growth at hf
  refine lv_aload_n hx hb dX2_growth_0 rfl (lv_at hl 0 rfl) ?_
  refine g_get (q := 1) (ci := 2) (k := 2) (ref := RX2) (C := RX2) (T := TX2) (N := 5) (index := 20) (v := .ref (κ 5)) S hK hP hiX2 (by decide) rfl rfl (by decide) rfl (by decide +kernel) rfl dX2_growth_1 ?_
  refine lv_iload_n hx hb dX2_growth_4 rfl (lv_at hl 2 rfl) ?_
  obtain ⟨v1, hv1, hf⟩ := obw hf
  refine g_ald (a := 5) (len := 6) S hK hP (by decide) (xC_arr (by decide) rfl) hv1 dX2_growth_5 ?_
  obtain ⟨v2, ev2, hf⟩ := letb_w hf
  refine lv_nmi ev2 ?_
  refine lv_istore_n (lv' := [(3, .int v2), (0, .ref (κ 1)), (1, .int p1), (2, .int p2)]) hx hb dX2_growth_6 rfl hl (by decide) rfl (fun ls hl => ?_)
  refine lv_aload_n hx hb dX2_growth_7 rfl (lv_at hl 1 rfl) ?_
  refine lv_iload_n hx hb dX2_growth_8 rfl (lv_at hl 3 rfl) ?_
  obtain ⟨v3, hq9, hf⟩ := obw hf
  refine g_calli (va_runV (As := [.int p2]) (rest := []) S (met_X2_endsOf l D cI cII κ hκ σ p2 v3 hq9) (cwV 1 S.2.2.2.2 gX2_growth_X2_endsOf rfl rfl rfl (by decide +kernel) ⟨Nat.le_of_ble_eq_true rfl, Nat.le_of_ble_eq_true rfl⟩) (g_preV (N := 5) (T := TX2) hK hP (Nat.le_refl _) (by decide) rfl rfl) rfl rfl hl.1 rfl (lv_room (Nat.le_of_ble_eq_true rfl)) dX2_growth_9 ⟨Nat.le_of_ble_eq_true rfl, Nat.le_of_ble_eq_true rfl⟩) (Nat.le_refl _) hκ hA hP hS (fun j h1 h2 => absurd h2 (Nat.not_lt.mpr h1)) (fun H locs hP hS => ?_)
  obtain ⟨v4, ev4, hf⟩ := letb_w hf
  refine lv_nmi ev4 ?_
  refine lv_istore (lv' := [(4, .int v4), (3, .int v2), (0, .ref (κ 1)), (1, .int p1), (2, .int p2)]) hx hb dX2_growth_12 hl (by decide) rfl (fun ls hl => ?_)
  refine lv_iload_n hx hb dX2_growth_14 rfl (lv_at hl 1 rfl) ?_
  refine lv_iload_n hx hb dX2_growth_15 rfl (lv_at hl 3 rfl) ?_
  refine lv_iand hx hb dX2_growth_16 ?_
  obtain ⟨K29, hK29, hf⟩ := letb_w hf
  have J29 : ∀ (_u : Unit), K29 _u = some r → ∀ (H : Heap) (locs : List Loc) (ls : Array Slot), va_P D vwCl (gw 31 κ (xC cI cII κ σ)) H → va_S (gA 31 κ) s.heap H locs → lv_has ls 5 [(1, .int p1), (3, .int v2), (4, .int v4)] → W p l e ({ frames := 1, cells := 0, slots := 0, locals := 24 } : Room) s m args below meth c H locs 0 0 (MQ below (QI D cI cII 31 κ (xC cI cII κ σ) r) args s 0 0 (gA 31 κ)) (F0 m 29 ls []) := by
    intro _u hf H locs ls hP hS hl
    rw [hK29] at hf
    refine lv_iload hx hb dX2_growth_29 (lv_at hl 2 rfl) ?_
    refine lv_iload_n hx hb dX2_growth_31 rfl (lv_at hl 0 rfl) ?_
    refine lv_iconst (v := -1) hx hb dX2_growth_32 (by decide) ?_
    refine lv_ixor hx hb dX2_growth_33 ?_
    refine lv_iand hx hb dX2_growth_34 ?_
    refine lv_if_eq (tgt := 43) hx hb dX2_growth_35 (by decide) (fun c35 => ?_) (fun c35 => ?_)
    · have hf := iteT c35 hf
      refine lv_iload_n hx hb dX2_growth_43 rfl (lv_at hl 1 rfl) ?_
      exact g_iret S hr hlk hK hP hS (Option.some.inj hf) dX2_growth_44
    · have hf := iteF c35 hf
      refine lv_iload hx hb dX2_growth_38 (lv_at hl 2 rfl) ?_
      refine lv_goto (tgt := 44) hx hb dX2_growth_40 (by decide) ?_
      exact g_iret S hr hlk hK hP hS (Option.some.inj hf) dX2_growth_44
  refine lv_if_eq (tgt := 29) hx hb dX2_growth_17 (by decide) (fun c17 => ?_) (fun c17 => ?_)
  · have hf := iteT c17 hf
    exact J29 _ hf _ _ _ hP hS (lv_sub hl [3, 1, 0] rfl)
  · have hf := iteF c17 hf
    refine lv_iload hx hb dX2_growth_20 (lv_at hl 0 rfl) ?_
    refine lv_iload_n hx hb dX2_growth_22 rfl (lv_at hl 3 rfl) ?_
    refine lv_iand hx hb dX2_growth_23 ?_
    refine lv_if_ne (tgt := 29) hx hb dX2_growth_24 (by decide) (fun c24 => ?_) (fun c24 => ?_)
    · have hf := iteT c24 hf
      exact J29 _ hf _ _ _ hP hS (lv_sub hl [3, 1, 0] rfl)
    · have hf := iteN c24 hf
      refine lv_iload_n hx hb dX2_growth_27 rfl (lv_at hl 1 rfl) ?_
      exact g_iret S hr hlk hK hP hS (Option.some.inj hf) dX2_growth_28

set_option maxRecDepth 100000 in
set_option maxHeartbeats 4000000 in
theorem met_X2_grown (l : Launch) (D : va_G) (cI cII : ClassId) (κ : Nat → Nat) (hκ : Inj 31 κ) (σ : SX) (p1 : Int32) (r : Int32) (hf : fn_X2_grown σ p1 = some r) : Met l yX2_grown wsX2_grown ({ frames := 2, cells := 0, slots := 0, locals := 48 } : Room) (va_Pc [.ref (κ 1), .int p1] (xP D cI cII κ σ)) (QI D cI cII 31 κ (xC cI cII κ σ) r) 0 0 (gA 31 κ) := by
  refine g_enter (cc := cX2_grown) (maxL := 5) (ret := (some .int)) (by decide) rfl (Nat.le_of_ble_eq_true rfl) ?_
  intro p e s m args below meth c ls S hr hlk _ hB hl
  have S : CallFix p m c cX2_grown 5 s args wsX2_grown RX2 := S
  obtain ⟨hP, hK⟩ := hB
  have hl : lv_has ls 5 [(0, .ref (κ 1)), (1, .int p1)] := hl
  have hS : va_S (gA 31 κ) s.heap s.heap [] := va_S.rf
  have hA : ∀ k, k < 31 → gA 31 κ (κ k) := gA_in
  obtain ⟨hx, hb, hml, hown, hts⟩ := id S
  unfold fn_X2_grown at hf
  refine lv_iload_n hx hb dX2_grown_0 rfl (lv_at hl 1 rfl) ?_
  obtain ⟨v1, ev1, hf⟩ := letb_w hf
  refine lv_nmi ev1 ?_
  refine lv_istore_n (lv' := [(2, .int v1), (0, .ref (κ 1)), (1, .int p1)]) hx hb dX2_grown_1 rfl hl (by decide) rfl (fun ls hl => ?_)
  refine lv_iconst (v := 0) hx hb dX2_grown_2 (by decide) ?_
  obtain ⟨v2, ev2, hf⟩ := letb_w hf
  refine lv_nmi ev2 ?_
  refine lv_istore_n (lv' := [(3, .int v2), (2, .int v1), (0, .ref (κ 1)), (1, .int p1)]) hx hb dX2_grown_3 rfl hl (by decide) rfl (fun ls hl => ?_)
  refine loopF_w (P := fun (g : Int32 → Int32 → Option (Int32)) => ∀ (x2_4 : Int32) (x3_4 : Int32), g x2_4 x3_4 = some r → ∀ (H : Heap) (locs : List Loc) (ls : Array Slot), va_P D vwCl (gw 31 κ (xC cI cII κ σ)) H → va_S (gA 31 κ) s.heap H locs → lv_has ls 5 [(0, .ref (κ 1)), (2, .int x2_4), (3, .int x3_4)] → W p l e ({ frames := 2, cells := 0, slots := 0, locals := 48 } : Room) s m args below meth c H locs 0 0 (MQ below (QI D cI cII 31 κ (xC cI cII κ σ) r) args s 0 0 (gA 31 κ)) (F0 m 4 ls [])) (fun _ _ h => by simp at h) ?_ FU _ _ hf _ _ _ hP hS (lv_sub hl [2, 1, 0] rfl)
  intro rec4 ih4 x2_4 x3_4 hf H locs ls hP hS hl
  unfold bd_X2_grown_4 at hf
  refine lv_iload_n hx hb dX2_grown_4 rfl (lv_at hl 2 rfl) ?_
  refine lv_bipush (v := 12) hx hb dX2_grown_5 (by decide) ?_
  refine lv_icmp_ge (tgt := 41) hx hb dX2_grown_7 (by decide) (fun c7 => ?_) (fun c7 => ?_)
  · have hf := iteT c7 hf
    refine lv_iload_n hx hb dX2_grown_41 rfl (lv_at hl 1 rfl) ?_
    exact g_iret S hr hlk hK hP hS (Option.some.inj hf) dX2_grown_42
  · have hf := iteF c7 hf
    refine lv_aload_n hx hb dX2_grown_10 rfl (lv_at hl 0 rfl) ?_
    refine lv_iload_n hx hb dX2_grown_11 rfl (lv_at hl 1 rfl) ?_
    obtain ⟨v3, hq12, hf⟩ := obw hf
    refine g_calli (va_runV (As := [.int x2_4]) (rest := []) S (met_X2_firstMixed l D cI cII κ hκ σ x2_4 v3 hq12) (cwV 1 S.2.2.2.2 gX2_grown_X2_firstMixed rfl rfl rfl (by decide +kernel) ⟨Nat.le_of_ble_eq_true rfl, Nat.le_of_ble_eq_true rfl⟩) (g_preV (N := 5) (T := TX2) hK hP (Nat.le_refl _) (by decide) rfl rfl) rfl rfl hl.1 rfl (lv_room (Nat.le_of_ble_eq_true rfl)) dX2_grown_12 ⟨Nat.le_of_ble_eq_true rfl, Nat.le_of_ble_eq_true rfl⟩) (Nat.le_refl _) hκ hA hP hS (fun j h1 h2 => absurd h2 (Nat.not_lt.mpr h1)) (fun H locs hP hS => ?_)
    obtain ⟨v4, ev4, hf⟩ := letb_w hf
    refine lv_nmi ev4 ?_
    refine lv_istore (lv' := [(4, .int v4), (0, .ref (κ 1)), (2, .int x2_4), (3, .int x3_4)]) hx hb dX2_grown_15 hl (by decide) rfl (fun ls hl => ?_)
    refine lv_iload hx hb dX2_grown_17 (lv_at hl 0 rfl) ?_
    refine lv_iconst (v := -1) hx hb dX2_grown_19 (by decide) ?_
    refine lv_icmp_ne (tgt := 25) hx hb dX2_grown_20 (by decide) (fun c20 => ?_) (fun c20 => ?_)
    · have hf := iteT c20 hf
      refine lv_iload_n hx hb dX2_grown_25 rfl (lv_at hl 2 rfl) ?_
      refine lv_aload_n hx hb dX2_grown_26 rfl (lv_at hl 1 rfl) ?_
      refine lv_iload_n hx hb dX2_grown_27 rfl (lv_at hl 2 rfl) ?_
      refine lv_iload hx hb dX2_grown_28 (lv_at hl 0 rfl) ?_
      obtain ⟨v5, hq30, hf⟩ := obw hf
      refine g_calli (va_runV (As := [.int x2_4, .int v4]) (rest := [.int x2_4]) S (met_X2_growth l D cI cII κ hκ σ x2_4 v4 v5 hq30) (cwV 2 S.2.2.2.2 gX2_grown_X2_growth rfl rfl rfl (by decide +kernel) ⟨Nat.le_of_ble_eq_true rfl, Nat.le_of_ble_eq_true rfl⟩) (g_preV (N := 5) (T := TX2) hK hP (Nat.le_refl _) (by decide) rfl rfl) rfl rfl hl.1 rfl (lv_room (Nat.le_of_ble_eq_true rfl)) dX2_grown_30 ⟨Nat.le_of_ble_eq_true rfl, Nat.le_of_ble_eq_true rfl⟩) (Nat.le_refl _) hκ hA hP hS (fun j h1 h2 => absurd h2 (Nat.not_lt.mpr h1)) (fun H locs hP hS => ?_)
      refine lv_ior hx hb dX2_grown_33 ?_
      obtain ⟨v6, ev6, hf⟩ := letb_w hf
      refine lv_nmi ev6 ?_
      refine lv_istore_n (lv' := [(2, .int v6), (4, .int v4), (0, .ref (κ 1)), (3, .int x3_4)]) hx hb dX2_grown_34 rfl hl (by decide) rfl (fun ls hl => ?_)
      obtain ⟨v7, ev7, hf⟩ := letb_w hf
      refine lv_iinc (v := v7) (lv' := [(3, .int v7), (2, .int v6), (4, .int v4), (0, .ref (κ 1))]) hx hb dX2_grown_35 hl (k := 3) rfl (by rw [ev7]; rfl) (by decide) rfl (fun ls hl => ?_)
      refine lv_goto (tgt := 4) hx hb dX2_grown_38 (by decide) ?_
      exact ih4 _ _ hf _ _ _ hP hS (lv_sub hl [3, 1, 0] rfl)
    · have hf := iteN c20 hf
      refine lv_iload_n hx hb dX2_grown_23 rfl (lv_at hl 2 rfl) ?_
      exact g_iret S hr hlk hK hP hS (Option.some.inj hf) dX2_grown_24

set_option maxRecDepth 100000 in
set_option maxHeartbeats 4000000 in
theorem met_X2_nextStates (l : Launch) (D : va_G) (cI cII : ClassId) (κ : Nat → Nat) (hκ : Inj 31 κ) (σ : SX) (p1 : Int32) (r : Int32) (hf : fn_X2_nextStates σ p1 = some r) : Met l yX2_nextStates wsX2_nextStates ({ frames := 1, cells := 0, slots := 0, locals := 21 } : Room) (va_Pc [.ref (κ 1), .int p1] (xP D cI cII κ σ)) (QI D cI cII 31 κ (xC cI cII κ σ) r) 0 0 (gA 31 κ) := by
  refine g_enter (cc := cX2_nextStates) (maxL := 6) (ret := (some .int)) (by decide) rfl (Nat.le_of_ble_eq_true rfl) ?_
  intro p e s m args below meth c ls S hr hlk _ hB hl
  have S : CallFix p m c cX2_nextStates 6 s args wsX2_nextStates RX2 := S
  obtain ⟨hP, hK⟩ := hB
  have hl : lv_has ls 6 [(0, .ref (κ 1)), (1, .int p1)] := hl
  have hS : va_S (gA 31 κ) s.heap s.heap [] := va_S.rf
  have hA : ∀ k, k < 31 → gA 31 κ (κ k) := gA_in
  obtain ⟨hx, hb, hml, hown, hts⟩ := id S
  have hiX2 : ∀ w ∈ u_ws RX2 TX2 5, w ∈ wsX2_nextStates := by decide +kernel
  unfold fn_X2_nextStates at hf
  refine lv_iconst (v := 0) hx hb dX2_nextStates_0 (by decide) ?_
  obtain ⟨v1, ev1, hf⟩ := letb_w hf
  refine lv_nmi ev1 ?_
  refine lv_istore_n (lv' := [(2, .int v1), (0, .ref (κ 1)), (1, .int p1)]) hx hb dX2_nextStates_1 rfl hl (by decide) rfl (fun ls hl => ?_)
  refine lv_iconst (v := 0) hx hb dX2_nextStates_2 (by decide) ?_
  obtain ⟨v2, ev2, hf⟩ := letb_w hf
  refine lv_nmi ev2 ?_
  refine lv_istore_n (lv' := [(3, .int v2), (2, .int v1), (0, .ref (κ 1)), (1, .int p1)]) hx hb dX2_nextStates_3 rfl hl (by decide) rfl (fun ls hl => ?_)
  refine loopF_w (P := fun (g : Int32 → Int32 → Option (Int32)) => ∀ (x2_4 : Int32) (x3_4 : Int32), g x2_4 x3_4 = some r → ∀ (H : Heap) (locs : List Loc) (ls : Array Slot), va_P D vwCl (gw 31 κ (xC cI cII κ σ)) H → va_S (gA 31 κ) s.heap H locs → lv_has ls 6 [(0, .ref (κ 1)), (1, .int p1), (2, .int x2_4), (3, .int x3_4)] → W p l e ({ frames := 1, cells := 0, slots := 0, locals := 21 } : Room) s m args below meth c H locs 0 0 (MQ below (QI D cI cII 31 κ (xC cI cII κ σ) r) args s 0 0 (gA 31 κ)) (F0 m 4 ls [])) (fun _ _ h => by simp at h) ?_ FU _ _ hf _ _ _ hP hS (lv_sub hl [2, 3, 1, 0] rfl)
  intro rec4 ih4 x2_4 x3_4 hf H locs ls hP hS hl
  unfold bd_X2_nextStates_4 at hf
  refine lv_iload_n hx hb dX2_nextStates_4 rfl (lv_at hl 3 rfl) ?_
  refine lv_bipush (v := 6) hx hb dX2_nextStates_5 (by decide) ?_
  refine lv_icmp_ge (tgt := 67) hx hb dX2_nextStates_7 (by decide) (fun c7 => ?_) (fun c7 => ?_)
  · have hf := iteT c7 hf
    refine lv_iload_n hx hb dX2_nextStates_67 rfl (lv_at hl 2 rfl) ?_
    exact g_iret S hr hlk hK hP hS (Option.some.inj hf) dX2_nextStates_68
  · have hf := iteF c7 hf
    refine lv_iconst (v := 0) hx hb dX2_nextStates_10 (by decide) ?_
    obtain ⟨v3, ev3, hf⟩ := letb_w hf
    refine lv_nmi ev3 ?_
    refine lv_istore (lv' := [(4, .int v3), (0, .ref (κ 1)), (1, .int p1), (2, .int x2_4), (3, .int x3_4)]) hx hb dX2_nextStates_11 hl (by decide) rfl (fun ls hl => ?_)
    refine loopF_w (P := fun (g : Int32 → Int32 → Option (Int32)) => ∀ (x2_13 : Int32) (x4_13 : Int32), g x2_13 x4_13 = some r → ∀ (H : Heap) (locs : List Loc) (ls : Array Slot), va_P D vwCl (gw 31 κ (xC cI cII κ σ)) H → va_S (gA 31 κ) s.heap H locs → lv_has ls 6 [(0, .ref (κ 1)), (1, .int p1), (2, .int x2_13), (3, .int x3_4), (4, .int x4_13)] → W p l e ({ frames := 1, cells := 0, slots := 0, locals := 21 } : Room) s m args below meth c H locs 0 0 (MQ below (QI D cI cII 31 κ (xC cI cII κ σ) r) args s 0 0 (gA 31 κ)) (F0 m 13 ls [])) (fun _ _ h => by simp at h) ?_ FU _ _ hf _ _ _ hP hS (lv_sub hl [1, 2, 3, 4, 0] rfl)
    intro rec13 ih13 x2_13 x4_13 hf H locs ls hP hS hl
    unfold bd_X2_nextStates_13 at hf
    refine lv_iload hx hb dX2_nextStates_13 (lv_at hl 4 rfl) ?_
    refine lv_aload_n hx hb dX2_nextStates_15 rfl (lv_at hl 0 rfl) ?_
    refine g_get (q := 1) (ci := 2) (k := 0) (ref := RX2) (C := RX2) (T := TX2) (N := 5) (index := 9) (v := .int ((σ.1 0))) S hK hP hiX2 (by decide) rfl rfl (by decide) rfl (by decide +kernel) rfl dX2_nextStates_16 ?_
    refine lv_icmp_ge (tgt := 61) hx hb dX2_nextStates_19 (by decide) (fun c19 => ?_) (fun c19 => ?_)
    · have hf := iteT c19 hf
      obtain ⟨v4, ev4, hf⟩ := letb_w hf
      refine lv_iinc (v := v4) (lv' := [(3, .int v4), (0, .ref (κ 1)), (1, .int p1), (2, .int x2_13), (4, .int x4_13)]) hx hb dX2_nextStates_61 hl (k := 3) rfl (by rw [ev4]; rfl) (by decide) rfl (fun ls hl => ?_)
      refine lv_goto (tgt := 4) hx hb dX2_nextStates_64 (by decide) ?_
      exact ih4 _ _ hf _ _ _ hP hS (lv_sub hl [1, 2, 3, 0] rfl)
    · have hf := iteF c19 hf
      refine lv_aload_n hx hb dX2_nextStates_22 rfl (lv_at hl 0 rfl) ?_
      refine g_get (q := 1) (ci := 2) (k := 1) (ref := RX2) (C := RX2) (T := TX2) (N := 5) (index := 17) (v := .ref (κ 4)) S hK hP hiX2 (by decide) rfl rfl (by decide) rfl (by decide +kernel) rfl dX2_nextStates_23 ?_
      refine lv_iload_n hx hb dX2_nextStates_26 rfl (lv_at hl 3 rfl) ?_
      obtain ⟨r5, hr5, hf⟩ := obw hf
      have br5 : r5 < 6 := (arow_w hr5).2.2
      refine g_aald (q := 4) (b := 13) S hK hP (by decide) rfl hr5 dX2_nextStates_27 ?_
      refine lv_iload hx hb dX2_nextStates_28 (lv_at hl 4 rfl) ?_
      obtain ⟨v6, hv6, hf⟩ := obw hf
      refine g_ald (a := (13 + r5)) (len := 12) S hK hP (by omega) (xC_arr (by omega) (xLen13 br5)) hv6 dX2_nextStates_30 ?_
      obtain ⟨v7, ev7, hf⟩ := letb_w hf
      refine lv_nmi ev7 ?_
      refine lv_istore (lv' := [(5, .int v7), (0, .ref (κ 1)), (1, .int p1), (2, .int x2_13), (3, .int x3_4), (4, .int x4_13)]) hx hb dX2_nextStates_31 hl (by decide) rfl (fun ls hl => ?_)
      refine lv_iload hx hb dX2_nextStates_33 (lv_at hl 0 rfl) ?_
      refine lv_iconst (v := -1) hx hb dX2_nextStates_35 (by decide) ?_
      obtain ⟨K55, hK55, hf⟩ := letb_w hf
      have J55 : ∀ (y2_55 : Int32), K55 y2_55 = some r → ∀ (H : Heap) (locs : List Loc) (ls : Array Slot), va_P D vwCl (gw 31 κ (xC cI cII κ σ)) H → va_S (gA 31 κ) s.heap H locs → lv_has ls 6 [(0, .ref (κ 1)), (1, .int p1), (2, .int y2_55), (3, .int x3_4), (4, .int x4_13)] → W p l e ({ frames := 1, cells := 0, slots := 0, locals := 21 } : Room) s m args below meth c H locs 0 0 (MQ below (QI D cI cII 31 κ (xC cI cII κ σ) r) args s 0 0 (gA 31 κ)) (F0 m 55 ls []) := by
        intro y2_55 hf H locs ls hP hS hl
        rw [hK55] at hf
        obtain ⟨v8, ev8, hf⟩ := letb_w hf
        refine lv_iinc (v := v8) (lv' := [(4, .int v8), (0, .ref (κ 1)), (1, .int p1), (2, .int y2_55), (3, .int x3_4)]) hx hb dX2_nextStates_55 hl (k := 4) rfl (by rw [ev8]; rfl) (by decide) rfl (fun ls hl => ?_)
        refine lv_goto (tgt := 13) hx hb dX2_nextStates_58 (by decide) ?_
        exact ih13 _ _ hf _ _ _ hP hS (lv_sub hl [1, 2, 3, 4, 0] rfl)
      refine lv_icmp_eq (tgt := 55) hx hb dX2_nextStates_36 (by decide) (fun c36 => ?_) (fun c36 => ?_)
      · have hf := iteT c36 hf
        exact J55 _ hf _ _ _ hP hS (lv_sub hl [1, 2, 3, 4, 5] rfl)
      · have hf := iteF c36 hf
        refine lv_iload_n hx hb dX2_nextStates_39 rfl (lv_at hl 2 rfl) ?_
        refine lv_iload hx hb dX2_nextStates_40 (lv_at hl 5 rfl) ?_
        obtain ⟨v9, hq42, hf⟩ := obw hf
        refine g_calli (va_runSN (As := [.int p1, .int x4_13]) (rest := []) S (met_X3_has l D cI cII κ hκ σ p1 x4_13 v9 hq42) ⟨va_cnB 2 S.2.2.2.2 gX2_nextStates_X3_has_n62 rfl rfl rfl hK.2.2.2.2.2.2.2.2.2.1 (S.2.2.2.2 (.initialized RX3) (by decide +kernel)) (by decide +kernel) ⟨Nat.le_of_ble_eq_true rfl, Nat.le_of_ble_eq_true rfl⟩, S.2.2.2.2 (.static yX3_has) (by decide +kernel), trivial⟩ (g_preS hK hP (Nat.le_refl _)) rfl rfl hl.1 rfl (lv_room (Nat.le_of_ble_eq_true rfl)) dX2_nextStates_42 ⟨Nat.le_of_ble_eq_true rfl, Nat.le_of_ble_eq_true rfl⟩) (Nat.le_refl _) hκ hA hP hS (fun j h1 h2 => absurd h2 (Nat.not_lt.mpr h1)) (fun H locs hP hS => ?_)
        refine lv_if_eq (tgt := 55) hx hb dX2_nextStates_45 (by decide) (fun c45 => ?_) (fun c45 => ?_)
        · have hf := iteT c45 hf
          exact J55 _ hf _ _ _ hP hS (lv_sub hl [1, 2, 3, 4, 5] rfl)
        · have hf := iteF c45 hf
          refine lv_iload_n hx hb dX2_nextStates_48 rfl (lv_at hl 3 rfl) ?_
          refine lv_iconst (v := 1) hx hb dX2_nextStates_49 (by decide) ?_
          refine lv_iload hx hb dX2_nextStates_50 (lv_at hl 0 rfl) ?_
          refine lv_ishl hx hb dX2_nextStates_52 ?_
          refine lv_ior hx hb dX2_nextStates_53 ?_
          obtain ⟨v10, ev10, hf⟩ := letb_w hf
          refine lv_nmi ev10 ?_
          refine lv_istore_n (lv' := [(2, .int v10), (5, .int v7), (0, .ref (κ 1)), (1, .int p1), (3, .int x3_4), (4, .int x4_13)]) hx hb dX2_nextStates_54 rfl hl (by decide) rfl (fun ls hl => ?_)
          exact J55 _ hf _ _ _ hP hS (lv_sub hl [2, 3, 0, 4, 5] rfl)

set_option maxRecDepth 100000 in
set_option maxHeartbeats 4000000 in
theorem met_X2_reachedStates (l : Launch) (D : va_G) (cI cII : ClassId) (κ : Nat → Nat) (hκ : Inj 31 κ) (σ : SX)  (r : Int32) (hf : fn_X2_reachedStates σ  = some r) : Met l yX2_reachedStates wsX2_reachedStates ({ frames := 2, cells := 0, slots := 0, locals := 46 } : Room) (va_Pc [.ref (κ 1)] (xP D cI cII κ σ)) (QI D cI cII 31 κ (xC cI cII κ σ) r) 0 0 (gA 31 κ) := by
  refine g_enter (cc := cX2_reachedStates) (maxL := 3) (ret := (some .int)) (by decide) rfl (Nat.le_of_ble_eq_true rfl) ?_
  intro p e s m args below meth c ls S hr hlk _ hB hl
  have S : CallFix p m c cX2_reachedStates 3 s args wsX2_reachedStates RX2 := S
  obtain ⟨hP, hK⟩ := hB
  have hl : lv_has ls 3 [(0, .ref (κ 1))] := hl
  have hS : va_S (gA 31 κ) s.heap s.heap [] := va_S.rf
  have hA : ∀ k, k < 31 → gA 31 κ (κ k) := gA_in
  obtain ⟨hx, hb, hml, hown, hts⟩ := id S
  have hiX2 : ∀ w ∈ u_ws RX2 TX2 5, w ∈ wsX2_reachedStates := by decide +kernel
  unfold fn_X2_reachedStates at hf
  refine lv_iconst (v := 1) hx hb dX2_reachedStates_0 (by decide) ?_
  obtain ⟨v1, ev1, hf⟩ := letb_w hf
  refine lv_nmi ev1 ?_
  refine lv_istore_n (lv' := [(1, .int v1), (0, .ref (κ 1))]) hx hb dX2_reachedStates_1 rfl hl (by decide) rfl (fun ls hl => ?_)
  refine lv_iconst (v := 1) hx hb dX2_reachedStates_2 (by decide) ?_
  obtain ⟨v2, ev2, hf⟩ := letb_w hf
  refine lv_nmi ev2 ?_
  refine lv_istore_n (lv' := [(2, .int v2), (1, .int v1), (0, .ref (κ 1))]) hx hb dX2_reachedStates_3 rfl hl (by decide) rfl (fun ls hl => ?_)
  refine loopF_w (P := fun (g : Int32 → Int32 → Option (Int32)) => ∀ (x1_4 : Int32) (x2_4 : Int32), g x1_4 x2_4 = some r → ∀ (H : Heap) (locs : List Loc) (ls : Array Slot), va_P D vwCl (gw 31 κ (xC cI cII κ σ)) H → va_S (gA 31 κ) s.heap H locs → lv_has ls 3 [(0, .ref (κ 1)), (1, .int x1_4), (2, .int x2_4)] → W p l e ({ frames := 2, cells := 0, slots := 0, locals := 46 } : Room) s m args below meth c H locs 0 0 (MQ below (QI D cI cII 31 κ (xC cI cII κ σ) r) args s 0 0 (gA 31 κ)) (F0 m 4 ls [])) (fun _ _ h => by simp at h) ?_ FU _ _ hf _ _ _ hP hS (lv_sub hl [2, 1, 0] rfl)
  intro rec4 ih4 x1_4 x2_4 hf H locs ls hP hS hl
  unfold bd_X2_reachedStates_4 at hf
  refine lv_iload_n hx hb dX2_reachedStates_4 rfl (lv_at hl 2 rfl) ?_
  refine lv_aload_n hx hb dX2_reachedStates_5 rfl (lv_at hl 0 rfl) ?_
  refine g_get (q := 1) (ci := 2) (k := 0) (ref := RX2) (C := RX2) (T := TX2) (N := 5) (index := 9) (v := .int ((σ.1 0))) S hK hP hiX2 (by decide) rfl rfl (by decide) rfl (by decide +kernel) rfl dX2_reachedStates_6 ?_
  refine lv_icmp_ge (tgt := 26) hx hb dX2_reachedStates_9 (by decide) (fun c9 => ?_) (fun c9 => ?_)
  · have hf := iteT c9 hf
    refine lv_iload_n hx hb dX2_reachedStates_26 rfl (lv_at hl 1 rfl) ?_
    exact g_iret S hr hlk hK hP hS (Option.some.inj hf) dX2_reachedStates_27
  · have hf := iteF c9 hf
    refine lv_iload_n hx hb dX2_reachedStates_12 rfl (lv_at hl 1 rfl) ?_
    refine lv_aload_n hx hb dX2_reachedStates_13 rfl (lv_at hl 0 rfl) ?_
    refine lv_iload_n hx hb dX2_reachedStates_14 rfl (lv_at hl 1 rfl) ?_
    obtain ⟨v3, hq15, hf⟩ := obw hf
    refine g_calli (va_runV (As := [.int x1_4]) (rest := [.int x1_4]) S (met_X2_nextStates l D cI cII κ hκ σ x1_4 v3 hq15) (cwV 1 S.2.2.2.2 gX2_reachedStates_X2_nextStates rfl rfl rfl (by decide +kernel) ⟨Nat.le_of_ble_eq_true rfl, Nat.le_of_ble_eq_true rfl⟩) (g_preV (N := 5) (T := TX2) hK hP (Nat.le_refl _) (by decide) rfl rfl) rfl rfl hl.1 rfl (lv_room (Nat.le_of_ble_eq_true rfl)) dX2_reachedStates_15 ⟨Nat.le_of_ble_eq_true rfl, Nat.le_of_ble_eq_true rfl⟩) (Nat.le_refl _) hκ hA hP hS (fun j h1 h2 => absurd h2 (Nat.not_lt.mpr h1)) (fun H locs hP hS => ?_)
    refine lv_ior hx hb dX2_reachedStates_18 ?_
    obtain ⟨v4, ev4, hf⟩ := letb_w hf
    refine lv_nmi ev4 ?_
    refine lv_istore_n (lv' := [(1, .int v4), (0, .ref (κ 1)), (2, .int x2_4)]) hx hb dX2_reachedStates_19 rfl hl (by decide) rfl (fun ls hl => ?_)
    obtain ⟨v5, ev5, hf⟩ := letb_w hf
    refine lv_iinc (v := v5) (lv' := [(2, .int v5), (1, .int v4), (0, .ref (κ 1))]) hx hb dX2_reachedStates_20 hl (k := 2) rfl (by rw [ev5]; rfl) (by decide) rfl (fun ls hl => ?_)
    refine lv_goto (tgt := 4) hx hb dX2_reachedStates_23 (by decide) ?_
    exact ih4 _ _ hf _ _ _ hP hS (lv_sub hl [2, 1, 0] rfl)

set_option maxRecDepth 100000 in
set_option maxHeartbeats 4000000 in
theorem met_X2_statePairs (l : Launch) (D : va_G) (cI cII : ClassId) (κ : Nat → Nat) (hκ : Inj 31 κ) (σ : SX)  (r : Int32) (hf : fn_X2_statePairs σ  = some r) : Met l yX2_statePairs wsX2_statePairs ({ frames := 0, cells := 0, slots := 0, locals := 0 } : Room) (va_Pc [.ref (κ 1)] (xP D cI cII κ σ)) (QI D cI cII 31 κ (xC cI cII κ σ) r) 0 0 (gA 31 κ) := by
  refine g_enter (cc := cX2_statePairs) (maxL := 1) (ret := (some .int)) (by decide) rfl (Nat.le_of_ble_eq_true rfl) ?_
  intro p e s m args below meth c ls S hr hlk _ hB hl
  have S : CallFix p m c cX2_statePairs 1 s args wsX2_statePairs RX2 := S
  obtain ⟨hP, hK⟩ := hB
  have hl : lv_has ls 1 [(0, .ref (κ 1))] := hl
  have hS : va_S (gA 31 κ) s.heap s.heap [] := va_S.rf
  have hA : ∀ k, k < 31 → gA 31 κ (κ k) := gA_in
  obtain ⟨hx, hb, hml, hown, hts⟩ := id S
  have hiX2 : ∀ w ∈ u_ws RX2 TX2 5, w ∈ wsX2_statePairs := by decide +kernel
  unfold fn_X2_statePairs at hf
  refine lv_aload_n hx hb dX2_statePairs_0 rfl (lv_at hl 0 rfl) ?_
  refine g_get (q := 1) (ci := 2) (k := 0) (ref := RX2) (C := RX2) (T := TX2) (N := 5) (index := 9) (v := .int ((σ.1 0))) S hK hP hiX2 (by decide) rfl rfl (by decide) rfl (by decide +kernel) rfl dX2_statePairs_1 ?_
  refine lv_aload_n hx hb dX2_statePairs_4 rfl (lv_at hl 0 rfl) ?_
  refine g_get (q := 1) (ci := 2) (k := 0) (ref := RX2) (C := RX2) (T := TX2) (N := 5) (index := 9) (v := .int ((σ.1 0))) S hK hP hiX2 (by decide) rfl rfl (by decide) rfl (by decide +kernel) rfl dX2_statePairs_5 ?_
  refine lv_iconst (v := 1) hx hb dX2_statePairs_8 (by decide) ?_
  refine lv_isub hx hb dX2_statePairs_9 ?_
  refine lv_imul hx hb dX2_statePairs_10 ?_
  refine lv_iconst (v := 2) hx hb dX2_statePairs_11 (by decide) ?_
  refine lv_idiv hx hb dX2_statePairs_12 (by decide) ?_
  exact g_iret S hr hlk hK hP hS (Option.some.inj hf) dX2_statePairs_13

set_option maxRecDepth 100000 in
set_option maxHeartbeats 4000000 in
theorem met_X2_stopsOf (l : Launch) (D : va_G) (cI cII : ClassId) (κ : Nat → Nat) (hκ : Inj 31 κ) (σ : SX) (p1 : Int32) (r : Int32) (hf : fn_X2_stopsOf σ p1 = some r) : Met l yX2_stopsOf wsX2_stopsOf ({ frames := 1, cells := 0, slots := 0, locals := 20 } : Room) (va_Pc [.ref (κ 1), .int p1] (xP D cI cII κ σ)) (QI D cI cII 31 κ (xC cI cII κ σ) r) 0 0 (gA 31 κ) := by
  refine g_enter (cc := cX2_stopsOf) (maxL := 2) (ret := (some .int)) (by decide) rfl (Nat.le_of_ble_eq_true rfl) ?_
  intro p e s m args below meth c ls S hr hlk _ hB hl
  have S : CallFix p m c cX2_stopsOf 2 s args wsX2_stopsOf RX2 := S
  obtain ⟨hP, hK⟩ := hB
  have hl : lv_has ls 2 [(0, .ref (κ 1)), (1, .int p1)] := hl
  have hS : va_S (gA 31 κ) s.heap s.heap [] := va_S.rf
  have hA : ∀ k, k < 31 → gA 31 κ (κ k) := gA_in
  obtain ⟨hx, hb, hml, hown, hts⟩ := id S
  have hiX2 : ∀ w ∈ u_ws RX2 TX2 5, w ∈ wsX2_stopsOf := by decide +kernel
  unfold fn_X2_stopsOf at hf
  refine lv_aload_n hx hb dX2_stopsOf_0 rfl (lv_at hl 0 rfl) ?_
  refine g_get (q := 1) (ci := 2) (k := 2) (ref := RX2) (C := RX2) (T := TX2) (N := 5) (index := 20) (v := .ref (κ 5)) S hK hP hiX2 (by decide) rfl rfl (by decide) rfl (by decide +kernel) rfl dX2_stopsOf_1 ?_
  refine lv_iload_n hx hb dX2_stopsOf_4 rfl (lv_at hl 1 rfl) ?_
  obtain ⟨v1, hv1, hf⟩ := obw hf
  refine g_ald (a := 5) (len := 6) S hK hP (by decide) (xC_arr (by decide) rfl) hv1 dX2_stopsOf_5 ?_
  refine lv_if_ne (tgt := 13) hx hb dX2_stopsOf_6 (by decide) (fun c6 => ?_) (fun c6 => ?_)
  · have hf := iteT c6 hf
    refine lv_aload_n hx hb dX2_stopsOf_13 rfl (lv_at hl 0 rfl) ?_
    obtain ⟨v2, hq14, hf⟩ := obw hf
    refine g_calli (va_runV (As := []) (rest := []) S (met_X2_all l D cI cII κ hκ σ v2 hq14) (cwV 0 S.2.2.2.2 gX2_stopsOf_X2_all rfl rfl rfl (by decide +kernel) ⟨Nat.le_of_ble_eq_true rfl, Nat.le_of_ble_eq_true rfl⟩) (g_preV (N := 5) (T := TX2) hK hP (Nat.le_refl _) (by decide) rfl rfl) rfl rfl hl.1 rfl (lv_room (Nat.le_of_ble_eq_true rfl)) dX2_stopsOf_14 ⟨Nat.le_of_ble_eq_true rfl, Nat.le_of_ble_eq_true rfl⟩) (Nat.le_refl _) hκ hA hP hS (fun j h1 h2 => absurd h2 (Nat.not_lt.mpr h1)) (fun H locs hP hS => ?_)
    refine lv_aload_n hx hb dX2_stopsOf_17 rfl (lv_at hl 0 rfl) ?_
    refine g_get (q := 1) (ci := 2) (k := 2) (ref := RX2) (C := RX2) (T := TX2) (N := 5) (index := 20) (v := .ref (κ 5)) S hK hP hiX2 (by decide) rfl rfl (by decide) rfl (by decide +kernel) rfl dX2_stopsOf_18 ?_
    refine lv_iload_n hx hb dX2_stopsOf_21 rfl (lv_at hl 1 rfl) ?_
    obtain ⟨v3, hv3, hf⟩ := obw hf
    refine g_ald (a := 5) (len := 6) S hK hP (by decide) (xC_arr (by decide) rfl) hv3 dX2_stopsOf_22 ?_
    refine lv_iconst (v := -1) hx hb dX2_stopsOf_23 (by decide) ?_
    refine lv_ixor hx hb dX2_stopsOf_24 ?_
    refine lv_iand hx hb dX2_stopsOf_25 ?_
    exact g_iret S hr hlk hK hP hS (Option.some.inj hf) dX2_stopsOf_26
  · have hf := iteN c6 hf
    refine lv_iconst (v := 0) hx hb dX2_stopsOf_9 (by decide) ?_
    refine lv_goto (tgt := 26) hx hb dX2_stopsOf_10 (by decide) ?_
    exact g_iret S hr hlk hK hP hS (Option.some.inj hf) dX2_stopsOf_26

set_option maxRecDepth 100000 in
set_option maxHeartbeats 4000000 in
theorem met_X2_stopPairs (l : Launch) (D : va_G) (cI cII : ClassId) (κ : Nat → Nat) (hκ : Inj 31 κ) (σ : SX)  (r : Int32) (hf : fn_X2_stopPairs σ  = some r) : Met l yX2_stopPairs wsX2_stopPairs ({ frames := 2, cells := 0, slots := 0, locals := 41 } : Room) (va_Pc [.ref (κ 1)] (xP D cI cII κ σ)) (QI D cI cII 31 κ (xC cI cII κ σ) r) 0 0 (gA 31 κ) := by
  refine g_enter (cc := cX2_stopPairs) (maxL := 3) (ret := (some .int)) (by decide) rfl (Nat.le_of_ble_eq_true rfl) ?_
  intro p e s m args below meth c ls S hr hlk _ hB hl
  have S : CallFix p m c cX2_stopPairs 3 s args wsX2_stopPairs RX2 := S
  obtain ⟨hP, hK⟩ := hB
  have hl : lv_has ls 3 [(0, .ref (κ 1))] := hl
  have hS : va_S (gA 31 κ) s.heap s.heap [] := va_S.rf
  have hA : ∀ k, k < 31 → gA 31 κ (κ k) := gA_in
  obtain ⟨hx, hb, hml, hown, hts⟩ := id S
  unfold fn_X2_stopPairs at hf
  refine lv_iconst (v := 0) hx hb dX2_stopPairs_0 (by decide) ?_
  obtain ⟨v1, ev1, hf⟩ := letb_w hf
  refine lv_nmi ev1 ?_
  refine lv_istore_n (lv' := [(1, .int v1), (0, .ref (κ 1))]) hx hb dX2_stopPairs_1 rfl hl (by decide) rfl (fun ls hl => ?_)
  refine lv_iconst (v := 0) hx hb dX2_stopPairs_2 (by decide) ?_
  obtain ⟨v2, ev2, hf⟩ := letb_w hf
  refine lv_nmi ev2 ?_
  refine lv_istore_n (lv' := [(2, .int v2), (1, .int v1), (0, .ref (κ 1))]) hx hb dX2_stopPairs_3 rfl hl (by decide) rfl (fun ls hl => ?_)
  refine loopF_w (P := fun (g : Int32 → Int32 → Option (Int32)) => ∀ (x1_4 : Int32) (x2_4 : Int32), g x1_4 x2_4 = some r → ∀ (H : Heap) (locs : List Loc) (ls : Array Slot), va_P D vwCl (gw 31 κ (xC cI cII κ σ)) H → va_S (gA 31 κ) s.heap H locs → lv_has ls 3 [(0, .ref (κ 1)), (1, .int x1_4), (2, .int x2_4)] → W p l e ({ frames := 2, cells := 0, slots := 0, locals := 41 } : Room) s m args below meth c H locs 0 0 (MQ below (QI D cI cII 31 κ (xC cI cII κ σ) r) args s 0 0 (gA 31 κ)) (F0 m 4 ls [])) (fun _ _ h => by simp at h) ?_ FU _ _ hf _ _ _ hP hS (lv_sub hl [2, 1, 0] rfl)
  intro rec4 ih4 x1_4 x2_4 hf H locs ls hP hS hl
  unfold bd_X2_stopPairs_4 at hf
  refine lv_iload_n hx hb dX2_stopPairs_4 rfl (lv_at hl 2 rfl) ?_
  refine lv_bipush (v := 6) hx hb dX2_stopPairs_5 (by decide) ?_
  refine lv_icmp_ge (tgt := 27) hx hb dX2_stopPairs_7 (by decide) (fun c7 => ?_) (fun c7 => ?_)
  · have hf := iteT c7 hf
    refine lv_iload_n hx hb dX2_stopPairs_27 rfl (lv_at hl 1 rfl) ?_
    exact g_iret S hr hlk hK hP hS (Option.some.inj hf) dX2_stopPairs_28
  · have hf := iteF c7 hf
    refine lv_iload_n hx hb dX2_stopPairs_10 rfl (lv_at hl 1 rfl) ?_
    refine lv_aload_n hx hb dX2_stopPairs_11 rfl (lv_at hl 0 rfl) ?_
    refine lv_iload_n hx hb dX2_stopPairs_12 rfl (lv_at hl 2 rfl) ?_
    obtain ⟨v3, hq13, hf⟩ := obw hf
    refine g_calli (va_runV (As := [.int x2_4]) (rest := [.int x1_4]) S (met_X2_stopsOf l D cI cII κ hκ σ x2_4 v3 hq13) (cwV 1 S.2.2.2.2 gX2_stopPairs_X2_stopsOf rfl rfl rfl (by decide +kernel) ⟨Nat.le_of_ble_eq_true rfl, Nat.le_of_ble_eq_true rfl⟩) (g_preV (N := 5) (T := TX2) hK hP (Nat.le_refl _) (by decide) rfl rfl) rfl rfl hl.1 rfl (lv_room (Nat.le_of_ble_eq_true rfl)) dX2_stopPairs_13 ⟨Nat.le_of_ble_eq_true rfl, Nat.le_of_ble_eq_true rfl⟩) (Nat.le_refl _) hκ hA hP hS (fun j h1 h2 => absurd h2 (Nat.not_lt.mpr h1)) (fun H locs hP hS => ?_)
    obtain ⟨v4, hq16, hf⟩ := obw hf
    refine g_calli (va_runS (As := [.int v3]) (rest := [.int x1_4]) S (met_J6_bitCount l D cI cII 31 κ (xC cI cII κ σ) v3 v4 hq16) (va_cwS 1 S.2.2.2.2 gX2_stopPairs_J6_bitCount_0f7a4 rfl rfl rfl (by decide +kernel) ⟨Nat.le_of_ble_eq_true rfl, Nat.le_of_ble_eq_true rfl⟩) (g_preS hK hP (Nat.le_refl _)) rfl rfl hl.1 rfl (lv_room (Nat.le_of_ble_eq_true rfl)) dX2_stopPairs_16 ⟨Nat.le_of_ble_eq_true rfl, Nat.le_of_ble_eq_true rfl⟩) (Nat.le_refl _) hκ hA hP hS (fun j h1 h2 => absurd h2 (Nat.not_lt.mpr h1)) (fun H locs hP hS => ?_)
    refine lv_iadd hx hb dX2_stopPairs_19 ?_
    obtain ⟨v5, ev5, hf⟩ := letb_w hf
    refine lv_nmi ev5 ?_
    refine lv_istore_n (lv' := [(1, .int v5), (0, .ref (κ 1)), (2, .int x2_4)]) hx hb dX2_stopPairs_20 rfl hl (by decide) rfl (fun ls hl => ?_)
    obtain ⟨v6, ev6, hf⟩ := letb_w hf
    refine lv_iinc (v := v6) (lv' := [(2, .int v6), (1, .int v5), (0, .ref (κ 1))]) hx hb dX2_stopPairs_21 hl (k := 2) rfl (by rw [ev6]; rfl) (by decide) rfl (fun ls hl => ?_)
    refine lv_goto (tgt := 4) hx hb dX2_stopPairs_24 (by decide) ?_
    exact ih4 _ _ hf _ _ _ hP hS (lv_sub hl [2, 1, 0] rfl)
