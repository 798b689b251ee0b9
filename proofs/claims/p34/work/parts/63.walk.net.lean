/-! by wip/p34/gen.py: walks: the machine computes the pure functions -/
set_option maxRecDepth 100000 in
set_option maxHeartbeats 4000000 in
theorem met_X0_holdsPlace (l : Launch) (D : va_G) (cI cII : ClassId) (κ : Nat → Nat) (hκ : Inj 31 κ) (σ : SX) (p1 : Int32) (r : Int32) (hf : fn_X0_holdsPlace σ p1 = some r) : Met l yX0_holdsPlace wsX0_holdsPlace ({ frames := 0, cells := 0, slots := 0, locals := 0 } : Room) (va_Pc [.ref (κ 3), .int p1] (xP D cI cII κ σ)) (QI D cI cII 31 κ (xC cI cII κ σ) r) 0 0 (gA 31 κ) := by
  refine g_enter (cc := cX0_holdsPlace) (maxL := 3) (ret := (some .boolean)) (by decide) rfl (Nat.le_of_ble_eq_true rfl) ?_
  intro p e s m args below meth c ls S hr hlk _ hB hl
  have S : CallFix p m c cX0_holdsPlace 3 s args wsX0_holdsPlace RX0 := S
  obtain ⟨hP, hK⟩ := hB
  have hl : lv_has ls 3 [(0, .ref (κ 3)), (1, .int p1)] := hl
  have hS : va_S (gA 31 κ) s.heap s.heap [] := va_S.rf
  have hA : ∀ k, k < 31 → gA 31 κ (κ k) := gA_in
  obtain ⟨hx, hb, hml, hown, hts⟩ := id S
  have hiX0 : ∀ w ∈ u_ws RX0 TX0 11, w ∈ wsX0_holdsPlace := by decide +kernel
  unfold fn_X0_holdsPlace at hf
  refine lv_iconst (v := 0) hx hb dX0_holdsPlace_0 (by decide) ?_
  obtain ⟨v1, ev1, hf⟩ := letb_w hf
  refine lv_nmi ev1 ?_
  refine lv_istore_n (lv' := [(2, .int v1), (0, .ref (κ 3)), (1, .int p1)]) hx hb dX0_holdsPlace_1 rfl hl (by decide) rfl (fun ls hl => ?_)
  refine loopF_w (P := fun (g : Int32 → Option (Int32)) => ∀ (x2_2 : Int32), g x2_2 = some r → ∀ (H : Heap) (locs : List Loc) (ls : Array Slot), va_P D vwCl (gw 31 κ (xC cI cII κ σ)) H → va_S (gA 31 κ) s.heap H locs → lv_has ls 3 [(0, .ref (κ 3)), (1, .int p1), (2, .int x2_2)] → W p l e ({ frames := 0, cells := 0, slots := 0, locals := 0 } : Room) s m args below meth c H locs 0 0 (MQ below (QI D cI cII 31 κ (xC cI cII κ σ) r) args s 0 0 (gA 31 κ)) (F0 m 2 ls [])) (fun _ h => by simp at h) ?_ FU _ hf _ _ _ hP hS (lv_sub hl [1, 2, 0] rfl)
  intro rec2 ih2 x2_2 hf H locs ls hP hS hl
  unfold bd_X0_holdsPlace_2 at hf
  refine lv_iload_n hx hb dX0_holdsPlace_2 rfl (lv_at hl 2 rfl) ?_
  refine lv_aload_n hx hb dX0_holdsPlace_3 rfl (lv_at hl 0 rfl) ?_
  refine g_get (q := 3) (ci := 0) (k := 3) (ref := RX0) (C := RX0) (T := TX0) (N := 11) (index := 54) (v := .int ((σ.1 4))) S hK hP hiX0 (by decide) rfl rfl (by decide) rfl (by decide +kernel) rfl dX0_holdsPlace_4 ?_
  refine lv_icmp_ge (tgt := 31) hx hb dX0_holdsPlace_7 (by decide) (fun c7 => ?_) (fun c7 => ?_)
  · have hf := iteT c7 hf
    refine lv_iconst (v := 0) hx hb dX0_holdsPlace_31 (by decide) ?_
    exact g_zret S hr hlk hK hP hS hf dX0_holdsPlace_32
  · have hf := iteF c7 hf
    refine lv_aload_n hx hb dX0_holdsPlace_10 rfl (lv_at hl 0 rfl) ?_
    refine g_get (q := 3) (ci := 0) (k := 4) (ref := RX0) (C := RX0) (T := TX0) (N := 11) (index := 19) (v := .ref (κ 9)) S hK hP hiX0 (by decide) rfl rfl (by decide) rfl (by decide +kernel) rfl dX0_holdsPlace_11 ?_
    refine lv_iload_n hx hb dX0_holdsPlace_14 rfl (lv_at hl 2 rfl) ?_
    obtain ⟨v2, hv2, hf⟩ := obw hf
    refine g_ald (a := 9) (len := 30) S hK hP (by decide) (xC_arr (by decide) rfl) hv2 dX0_holdsPlace_15 ?_
    refine lv_iload_n hx hb dX0_holdsPlace_16 rfl (lv_at hl 1 rfl) ?_
    refine lv_iconst (v := -1) hx hb dX0_holdsPlace_17 (by decide) ?_
    refine lv_ixor hx hb dX0_holdsPlace_18 ?_
    refine lv_iand hx hb dX0_holdsPlace_19 ?_
    refine lv_if_ne (tgt := 25) hx hb dX0_holdsPlace_20 (by decide) (fun c20 => ?_) (fun c20 => ?_)
    · have hf := iteT c20 hf
      obtain ⟨v3, ev3, hf⟩ := letb_w hf
      refine lv_iinc (v := v3) (lv' := [(2, .int v3), (0, .ref (κ 3)), (1, .int p1)]) hx hb dX0_holdsPlace_25 hl (k := 2) rfl (by rw [ev3]; rfl) (by decide) rfl (fun ls hl => ?_)
      refine lv_goto (tgt := 2) hx hb dX0_holdsPlace_28 (by decide) ?_
      exact ih2 _ hf _ _ _ hP hS (lv_sub hl [1, 2, 0] rfl)
    · have hf := iteN c20 hf
      refine lv_iconst (v := 1) hx hb dX0_holdsPlace_23 (by decide) ?_
      exact g_zret S hr hlk hK hP hS hf dX0_holdsPlace_24

set_option maxRecDepth 100000 in
set_option maxHeartbeats 4000000 in
theorem met_X0_choosePlaces (l : Launch) (D : va_G) (cI cII : ClassId) (κ : Nat → Nat) (hκ : Inj 31 κ) (σ : SX)  (σ' : SX) (hf : fn_X0_choosePlaces σ  = some σ') : Met l yX0_choosePlaces wsX0_choosePlaces ({ frames := 4, cells := 0, slots := 0, locals := 89 } : Room) (va_Pc [.ref (κ 3)] (xP D cI cII κ σ)) (QV D cI cII 31 κ (xC cI cII κ σ')) 0 0 (gA 31 κ) := by
  refine g_enter (cc := cX0_choosePlaces) (maxL := 4) (ret := none) (by decide) rfl (Nat.le_of_ble_eq_true rfl) ?_
  intro p e s m args below meth c ls S hr hlk _ hB hl
  have S : CallFix p m c cX0_choosePlaces 4 s args wsX0_choosePlaces RX0 := S
  obtain ⟨hP, hK⟩ := hB
  have hl : lv_has ls 4 [(0, .ref (κ 3))] := hl
  have hS : va_S (gA 31 κ) s.heap s.heap [] := va_S.rf
  have hA : ∀ k, k < 31 → gA 31 κ (κ k) := gA_in
  obtain ⟨hx, hb, hml, hown, hts⟩ := id S
  have hiX0 : ∀ w ∈ u_ws RX0 TX0 11, w ∈ wsX0_choosePlaces := by decide +kernel
  unfold fn_X0_choosePlaces at hf
  refine lv_aload_n hx hb dX0_choosePlaces_0 rfl (lv_at hl 0 rfl) ?_
  refine lv_iconst (v := 0) hx hb dX0_choosePlaces_1 (by decide) ?_
  obtain ⟨σ1, eσ1, hf⟩ := letb_w hf
  refine g_put (q := 3) (ci := 0) (k := 3) (ref := RX0) (C := RX0) (T := TX0) (N := 11) (index := 54) (ty := .int) (f' := (xC cI cII κ σ1)) S hK hP hκ hA hS hiX0 tyX0_ok nmX0 (by decide) rfl rfl (by decide) rfl (by decide +kernel) rfl (by decide +kernel) rfl rfl (Nat.le_of_ble_eq_true rfl) (fun j _ => by rw [eσ1]; exact xC_p4 j) dX0_choosePlaces_2 (fun H locs hP hS => ?_)
  refine lv_aload_n hx hb dX0_choosePlaces_5 rfl (lv_at hl 0 rfl) ?_
  refine g_get (q := 3) (ci := 0) (k := 1) (ref := RX0) (C := RX0) (T := TX0) (N := 11) (index := 15) (v := .ref (κ 2)) S hK hP hiX0 (by decide) rfl rfl (by decide) rfl (by decide +kernel) rfl dX0_choosePlaces_6 ?_
  obtain ⟨v3, σ2, hq9, hf⟩ := bind2_w hf
  refine g_calli (va_runV (As := []) (rest := []) S (met_X1_count l D cI cII κ hκ σ1 v3 σ2 hq9) (cwV 0 S.2.2.2.2 gX0_choosePlaces_X1_count rfl rfl rfl (by decide +kernel) ⟨Nat.le_of_ble_eq_true rfl, Nat.le_of_ble_eq_true rfl⟩) (g_preV (N := 4) (T := TX1) hK hP (Nat.le_refl _) (by decide) rfl rfl) rfl rfl hl.1 rfl (lv_room (Nat.le_of_ble_eq_true rfl)) dX0_choosePlaces_9 ⟨Nat.le_of_ble_eq_true rfl, Nat.le_of_ble_eq_true rfl⟩) (Nat.le_refl _) hκ hA hP hS (fun j h1 h2 => absurd h2 (Nat.not_lt.mpr h1)) (fun H locs hP hS => ?_)
  obtain ⟨v4, ev4, hf⟩ := letb_w hf
  refine lv_nmi ev4 ?_
  refine lv_istore_n (lv' := [(1, .int v4), (0, .ref (κ 3))]) hx hb dX0_choosePlaces_12 rfl hl (by decide) rfl (fun ls hl => ?_)
  refine lv_iconst (v := 0) hx hb dX0_choosePlaces_13 (by decide) ?_
  obtain ⟨v5, ev5, hf⟩ := letb_w hf
  refine lv_nmi ev5 ?_
  refine lv_istore_n (lv' := [(2, .int v5), (1, .int v4), (0, .ref (κ 3))]) hx hb dX0_choosePlaces_14 rfl hl (by decide) rfl (fun ls hl => ?_)
  refine loopF_w (P := fun (g : Int32 → SX → Option (SX)) => ∀ (x2_15 : Int32) (σ_15 : SX), g x2_15 σ_15 = some σ' → ∀ (H : Heap) (locs : List Loc) (ls : Array Slot), va_P D vwCl (gw 31 κ (xC cI cII κ σ_15)) H → va_S (gA 31 κ) s.heap H locs → lv_has ls 4 [(0, .ref (κ 3)), (1, .int v4), (2, .int x2_15)] → W p l e ({ frames := 4, cells := 0, slots := 0, locals := 89 } : Room) s m args below meth c H locs 0 0 (MQ below (QV D cI cII 31 κ (xC cI cII κ σ')) args s 0 0 (gA 31 κ)) (F0 m 15 ls [])) (fun _ _ h => by simp at h) ?_ FU _ _ hf _ _ _ hP hS (lv_sub hl [2, 1, 0] rfl)
  intro rec15 ih15 x2_15 σ_15 hf H locs ls hP hS hl
  unfold bd_X0_choosePlaces_15 at hf
  refine lv_iload_n hx hb dX0_choosePlaces_15 rfl (lv_at hl 2 rfl) ?_
  refine lv_iload_n hx hb dX0_choosePlaces_16 rfl (lv_at hl 1 rfl) ?_
  refine lv_icmp_ge (tgt := 72) hx hb dX0_choosePlaces_17 (by decide) (fun c17 => ?_) (fun c17 => ?_)
  · have hf := iteT c17 hf
    obtain rfl := Option.some.inj hf
    exact g_vret S hr hlk hK hP hS dX0_choosePlaces_72
  · have hf := iteF c17 hf
    refine lv_aload_n hx hb dX0_choosePlaces_20 rfl (lv_at hl 0 rfl) ?_
    refine g_get (q := 3) (ci := 0) (k := 3) (ref := RX0) (C := RX0) (T := TX0) (N := 11) (index := 54) (v := .int ((σ_15.1 4))) S hK hP hiX0 (by decide) rfl rfl (by decide) rfl (by decide +kernel) rfl dX0_choosePlaces_21 ?_
    refine lv_bipush (v := 30) hx hb dX0_choosePlaces_24 (by decide) ?_
    refine lv_icmp_ge (tgt := 72) hx hb dX0_choosePlaces_26 (by decide) (fun c26 => ?_) (fun c26 => ?_)
    · have hf := iteT c26 hf
      obtain rfl := Option.some.inj hf
      exact g_vret S hr hlk hK hP hS dX0_choosePlaces_72
    · have hf := iteF c26 hf
      refine lv_aload_n hx hb dX0_choosePlaces_29 rfl (lv_at hl 0 rfl) ?_
      refine g_get (q := 3) (ci := 0) (k := 1) (ref := RX0) (C := RX0) (T := TX0) (N := 11) (index := 15) (v := .ref (κ 2)) S hK hP hiX0 (by decide) rfl rfl (by decide) rfl (by decide +kernel) rfl dX0_choosePlaces_30 ?_
      refine lv_iload_n hx hb dX0_choosePlaces_33 rfl (lv_at hl 2 rfl) ?_
      obtain ⟨v6, hq34, hf⟩ := obw hf
      refine g_calli (va_runV (As := [.int x2_15]) (rest := []) S (met_X1_at l D cI cII κ hκ σ_15 x2_15 v6 hq34) (cwV 1 S.2.2.2.2 gX0_choosePlaces_X1_at rfl rfl rfl (by decide +kernel) ⟨Nat.le_of_ble_eq_true rfl, Nat.le_of_ble_eq_true rfl⟩) (g_preV (N := 4) (T := TX1) hK hP (Nat.le_refl _) (by decide) rfl rfl) rfl rfl hl.1 rfl (lv_room (Nat.le_of_ble_eq_true rfl)) dX0_choosePlaces_34 ⟨Nat.le_of_ble_eq_true rfl, Nat.le_of_ble_eq_true rfl⟩) (Nat.le_refl _) hκ hA hP hS (fun j h1 h2 => absurd h2 (Nat.not_lt.mpr h1)) (fun H locs hP hS => ?_)
      obtain ⟨v7, ev7, hf⟩ := letb_w hf
      refine lv_nmi ev7 ?_
      refine lv_istore_n (lv' := [(3, .int v7), (0, .ref (κ 3)), (1, .int v4), (2, .int x2_15)]) hx hb dX0_choosePlaces_37 rfl hl (by decide) rfl (fun ls hl => ?_)
      refine lv_aload_n hx hb dX0_choosePlaces_38 rfl (lv_at hl 1 rfl) ?_
      refine lv_iload_n hx hb dX0_choosePlaces_39 rfl (lv_at hl 0 rfl) ?_
      obtain ⟨v8, hq40, hf⟩ := obw hf
      refine g_calli (va_runV (As := [.int v7]) (rest := []) S (met_X0_holdsPlace l D cI cII κ hκ σ_15 v7 v8 hq40) (cwV 1 S.2.2.2.2 gX0_choosePlaces_X0_holdsPlace rfl rfl rfl (by decide +kernel) ⟨Nat.le_of_ble_eq_true rfl, Nat.le_of_ble_eq_true rfl⟩) (g_preV (N := 11) (T := TX0) hK hP (Nat.le_refl _) (by decide) rfl rfl) rfl rfl hl.1 rfl (lv_room (Nat.le_of_ble_eq_true rfl)) dX0_choosePlaces_40 ⟨Nat.le_of_ble_eq_true rfl, Nat.le_of_ble_eq_true rfl⟩) (Nat.le_refl _) hκ hA hP hS (fun j h1 h2 => absurd h2 (Nat.not_lt.mpr h1)) (fun H locs hP hS => ?_)
      obtain ⟨K66, hK66, hf⟩ := letb_w hf
      have J66 : ∀ (τ_66 : SX), K66 τ_66 = some σ' → ∀ (H : Heap) (locs : List Loc) (ls : Array Slot), va_P D vwCl (gw 31 κ (xC cI cII κ τ_66)) H → va_S (gA 31 κ) s.heap H locs → lv_has ls 4 [(0, .ref (κ 3)), (1, .int v4), (2, .int x2_15)] → W p l e ({ frames := 4, cells := 0, slots := 0, locals := 89 } : Room) s m args below meth c H locs 0 0 (MQ below (QV D cI cII 31 κ (xC cI cII κ σ')) args s 0 0 (gA 31 κ)) (F0 m 66 ls []) := by
        intro τ_66 hf H locs ls hP hS hl
        rw [hK66] at hf
        obtain ⟨v9, ev9, hf⟩ := letb_w hf
        refine lv_iinc (v := v9) (lv' := [(2, .int v9), (0, .ref (κ 3)), (1, .int v4)]) hx hb dX0_choosePlaces_66 hl (k := 2) rfl (by rw [ev9]; rfl) (by decide) rfl (fun ls hl => ?_)
        refine lv_goto (tgt := 15) hx hb dX0_choosePlaces_69 (by decide) ?_
        exact ih15 _ _ hf _ _ _ hP hS (lv_sub hl [1, 2, 0] rfl)
      refine lv_if_ne (tgt := 66) hx hb dX0_choosePlaces_43 (by decide) (fun c43 => ?_) (fun c43 => ?_)
      · have hf := iteT c43 hf
        exact J66 _ hf _ _ _ hP hS (lv_sub hl [1, 2, 3] rfl)
      · have hf := iteN c43 hf
        refine lv_aload_n hx hb dX0_choosePlaces_46 rfl (lv_at hl 1 rfl) ?_
        refine g_get (q := 3) (ci := 0) (k := 4) (ref := RX0) (C := RX0) (T := TX0) (N := 11) (index := 19) (v := .ref (κ 9)) S hK hP hiX0 (by decide) rfl rfl (by decide) rfl (by decide +kernel) rfl dX0_choosePlaces_47 ?_
        refine lv_aload_n hx hb dX0_choosePlaces_50 rfl (lv_at hl 1 rfl) ?_
        refine g_get (q := 3) (ci := 0) (k := 3) (ref := RX0) (C := RX0) (T := TX0) (N := 11) (index := 54) (v := .int ((σ_15.1 4))) S hK hP hiX0 (by decide) rfl rfl (by decide) rfl (by decide +kernel) rfl dX0_choosePlaces_51 ?_
        refine lv_iload_n hx hb dX0_choosePlaces_54 rfl (lv_at hl 0 rfl) ?_
        obtain ⟨σ10, hσ10, hf⟩ := obw hf
        refine g_ast (a := 9) (len := 30) (f' := (xC cI cII κ σ10)) S hK hP hκ hA hS (by decide) (xC_arr (by decide) rfl) hσ10 (fun j _ => xC_as hσ10 (by decide) rfl j) dX0_choosePlaces_55 (fun H locs hP hS => ?_)
        refine lv_aload_n hx hb dX0_choosePlaces_56 rfl (lv_at hl 1 rfl) ?_
        refine lv_dup hx hb dX0_choosePlaces_57 rfl ?_
        refine g_get (q := 3) (ci := 0) (k := 3) (ref := RX0) (C := RX0) (T := TX0) (N := 11) (index := 54) (v := .int ((σ10.1 4))) S hK hP hiX0 (by decide) rfl rfl (by decide) rfl (by decide +kernel) rfl dX0_choosePlaces_58 ?_
        refine lv_iconst (v := 1) hx hb dX0_choosePlaces_61 (by decide) ?_
        refine lv_iadd hx hb dX0_choosePlaces_62 ?_
        obtain ⟨σ11, eσ11, hf⟩ := letb_w hf
        refine g_put (q := 3) (ci := 0) (k := 3) (ref := RX0) (C := RX0) (T := TX0) (N := 11) (index := 54) (ty := .int) (f' := (xC cI cII κ σ11)) S hK hP hκ hA hS hiX0 tyX0_ok nmX0 (by decide) rfl rfl (by decide) rfl (by decide +kernel) rfl (by decide +kernel) rfl rfl (Nat.le_of_ble_eq_true rfl) (fun j _ => by rw [eσ11]; exact xC_p4 j) dX0_choosePlaces_63 (fun H locs hP hS => ?_)
        exact J66 _ hf _ _ _ hP hS (lv_sub hl [1, 2, 3] rfl)

set_option maxRecDepth 100000 in
set_option maxHeartbeats 4000000 in
theorem met_X0_placesCrossed (l : Launch) (D : va_G) (cI cII : ClassId) (κ : Nat → Nat) (hκ : Inj 31 κ) (σ : SX) (p1 : Int32) (p2 : Int32) (r : Int32) (hf : fn_X0_placesCrossed σ p1 p2 = some r) : Met l yX0_placesCrossed wsX0_placesCrossed ({ frames := 1, cells := 0, slots := 0, locals := 25 } : Room) (va_Pc [.ref (κ 3), .int p1, .int p2] (xP D cI cII κ σ)) (QI D cI cII 31 κ (xC cI cII κ σ) r) 0 0 (gA 31 κ) := by
  refine g_enter (cc := cX0_placesCrossed) (maxL := 5) (ret := (some .int)) (by decide) rfl (Nat.le_of_ble_eq_true rfl) ?_
  intro p e s m args below meth c ls S hr hlk _ hB hl
  have S : CallFix p m c cX0_placesCrossed 5 s args wsX0_placesCrossed RX0 := S
  obtain ⟨hP, hK⟩ := hB
  have hl : lv_has ls 5 [(0, .ref (κ 3)), (1, .int p1), (2, .int p2)] := hl
  have hS : va_S (gA 31 κ) s.heap s.heap [] := va_S.rf
  have hA : ∀ k, k < 31 → gA 31 κ (κ k) := gA_in
  obtain ⟨hx, hb, hml, hown, hts⟩ := id S
  have hiX0 : ∀ w ∈ u_ws RX0 TX0 11, w ∈ wsX0_placesCrossed := by decide +kernel
  unfold fn_X0_placesCrossed at hf
  refine lv_iconst (v := 0) hx hb dX0_placesCrossed_0 (by decide) ?_
  obtain ⟨v1, ev1, hf⟩ := letb_w hf
  refine lv_nmi ev1 ?_
  refine lv_istore_n (lv' := [(3, .int v1), (0, .ref (κ 3)), (1, .int p1), (2, .int p2)]) hx hb dX0_placesCrossed_1 rfl hl (by decide) rfl (fun ls hl => ?_)
  refine lv_iconst (v := 0) hx hb dX0_placesCrossed_2 (by decide) ?_
  obtain ⟨v2, ev2, hf⟩ := letb_w hf
  refine lv_nmi ev2 ?_
  refine lv_istore (lv' := [(4, .int v2), (3, .int v1), (0, .ref (κ 3)), (1, .int p1), (2, .int p2)]) hx hb dX0_placesCrossed_3 hl (by decide) rfl (fun ls hl => ?_)
  refine loopF_w (P := fun (g : Int32 → Int32 → Option (Int32)) => ∀ (x3_5 : Int32) (x4_5 : Int32), g x3_5 x4_5 = some r → ∀ (H : Heap) (locs : List Loc) (ls : Array Slot), va_P D vwCl (gw 31 κ (xC cI cII κ σ)) H → va_S (gA 31 κ) s.heap H locs → lv_has ls 5 [(0, .ref (κ 3)), (1, .int p1), (2, .int p2), (3, .int x3_5), (4, .int x4_5)] → W p l e ({ frames := 1, cells := 0, slots := 0, locals := 25 } : Room) s m args below meth c H locs 0 0 (MQ below (QI D cI cII 31 κ (xC cI cII κ σ) r) args s 0 0 (gA 31 κ)) (F0 m 5 ls [])) (fun _ _ h => by simp at h) ?_ FU _ _ hf _ _ _ hP hS (lv_sub hl [2, 3, 4, 1, 0] rfl)
  intro rec5 ih5 x3_5 x4_5 hf H locs ls hP hS hl
  unfold bd_X0_placesCrossed_5 at hf
  refine lv_iload hx hb dX0_placesCrossed_5 (lv_at hl 4 rfl) ?_
  refine lv_aload_n hx hb dX0_placesCrossed_7 rfl (lv_at hl 0 rfl) ?_
  refine g_get (q := 3) (ci := 0) (k := 3) (ref := RX0) (C := RX0) (T := TX0) (N := 11) (index := 54) (v := .int ((σ.1 4))) S hK hP hiX0 (by decide) rfl rfl (by decide) rfl (by decide +kernel) rfl dX0_placesCrossed_8 ?_
  refine lv_icmp_ge (tgt := 46) hx hb dX0_placesCrossed_11 (by decide) (fun c11 => ?_) (fun c11 => ?_)
  · have hf := iteT c11 hf
    refine lv_iload_n hx hb dX0_placesCrossed_46 rfl (lv_at hl 3 rfl) ?_
    exact g_iret S hr hlk hK hP hS (Option.some.inj hf) dX0_placesCrossed_47
  · have hf := iteF c11 hf
    refine lv_aload_n hx hb dX0_placesCrossed_14 rfl (lv_at hl 0 rfl) ?_
    refine g_get (q := 3) (ci := 0) (k := 0) (ref := RX0) (C := RX0) (T := TX0) (N := 11) (index := 9) (v := .ref (κ 1)) S hK hP hiX0 (by decide) rfl rfl (by decide) rfl (by decide +kernel) rfl dX0_placesCrossed_15 ?_
    refine lv_aload_n hx hb dX0_placesCrossed_18 rfl (lv_at hl 0 rfl) ?_
    refine g_get (q := 3) (ci := 0) (k := 4) (ref := RX0) (C := RX0) (T := TX0) (N := 11) (index := 19) (v := .ref (κ 9)) S hK hP hiX0 (by decide) rfl rfl (by decide) rfl (by decide +kernel) rfl dX0_placesCrossed_19 ?_
    refine lv_iload hx hb dX0_placesCrossed_22 (lv_at hl 4 rfl) ?_
    obtain ⟨v3, hv3, hf⟩ := obw hf
    refine g_ald (a := 9) (len := 30) S hK hP (by decide) (xC_arr (by decide) rfl) hv3 dX0_placesCrossed_24 ?_
    refine lv_iload_n hx hb dX0_placesCrossed_25 rfl (lv_at hl 1 rfl) ?_
    obtain ⟨v4, hq26, hf⟩ := obw hf
    refine g_calli (va_runV (As := [.int v3, .int p1]) (rest := []) S (met_X2_way l D cI cII κ hκ σ v3 p1 v4 hq26) (cwV 2 S.2.2.2.2 gX0_placesCrossed_X2_way rfl rfl rfl (by decide +kernel) ⟨Nat.le_of_ble_eq_true rfl, Nat.le_of_ble_eq_true rfl⟩) (g_preV (N := 5) (T := TX2) hK hP (Nat.le_refl _) (by decide) rfl rfl) rfl rfl hl.1 rfl (lv_room (Nat.le_of_ble_eq_true rfl)) dX0_placesCrossed_26 ⟨Nat.le_of_ble_eq_true rfl, Nat.le_of_ble_eq_true rfl⟩) (Nat.le_refl _) hκ hA hP hS (fun j h1 h2 => absurd h2 (Nat.not_lt.mpr h1)) (fun H locs hP hS => ?_)
    refine lv_iload_n hx hb dX0_placesCrossed_29 rfl (lv_at hl 2 rfl) ?_
    obtain ⟨K40, hK40, hf⟩ := letb_w hf
    have J40 : ∀ (y3_40 : Int32), K40 y3_40 = some r → ∀ (H : Heap) (locs : List Loc) (ls : Array Slot), va_P D vwCl (gw 31 κ (xC cI cII κ σ)) H → va_S (gA 31 κ) s.heap H locs → lv_has ls 5 [(0, .ref (κ 3)), (1, .int p1), (2, .int p2), (3, .int y3_40), (4, .int x4_5)] → W p l e ({ frames := 1, cells := 0, slots := 0, locals := 25 } : Room) s m args below meth c H locs 0 0 (MQ below (QI D cI cII 31 κ (xC cI cII κ σ) r) args s 0 0 (gA 31 κ)) (F0 m 40 ls []) := by
      intro y3_40 hf H locs ls hP hS hl
      rw [hK40] at hf
      obtain ⟨v5, ev5, hf⟩ := letb_w hf
      refine lv_iinc (v := v5) (lv' := [(4, .int v5), (0, .ref (κ 3)), (1, .int p1), (2, .int p2), (3, .int y3_40)]) hx hb dX0_placesCrossed_40 hl (k := 4) rfl (by rw [ev5]; rfl) (by decide) rfl (fun ls hl => ?_)
      refine lv_goto (tgt := 5) hx hb dX0_placesCrossed_43 (by decide) ?_
      exact ih5 _ _ hf _ _ _ hP hS (lv_sub hl [1, 2, 3, 4, 0] rfl)
    refine lv_icmp_ne (tgt := 40) hx hb dX0_placesCrossed_30 (by decide) (fun c30 => ?_) (fun c30 => ?_)
    · have hf := iteT c30 hf
      exact J40 _ hf _ _ _ hP hS (lv_sub hl [0, 1, 2, 3, 4] rfl)
    · have hf := iteN c30 hf
      refine lv_iload_n hx hb dX0_placesCrossed_33 rfl (lv_at hl 3 rfl) ?_
      refine lv_iconst (v := 1) hx hb dX0_placesCrossed_34 (by decide) ?_
      refine lv_iload hx hb dX0_placesCrossed_35 (lv_at hl 4 rfl) ?_
      refine lv_ishl hx hb dX0_placesCrossed_37 ?_
      refine lv_ior hx hb dX0_placesCrossed_38 ?_
      obtain ⟨v6, ev6, hf⟩ := letb_w hf
      refine lv_nmi ev6 ?_
      refine lv_istore_n (lv' := [(3, .int v6), (0, .ref (κ 3)), (1, .int p1), (2, .int p2), (4, .int x4_5)]) hx hb dX0_placesCrossed_39 rfl hl (by decide) rfl (fun ls hl => ?_)
      exact J40 _ hf _ _ _ hP hS (lv_sub hl [1, 2, 3, 0, 4] rfl)

set_option maxRecDepth 100000 in
set_option maxHeartbeats 4000000 in
theorem met_X0_placesWith (l : Launch) (D : va_G) (cI cII : ClassId) (κ : Nat → Nat) (hκ : Inj 31 κ) (σ : SX) (p1 : Int32) (r : Int32) (hf : fn_X0_placesWith σ p1 = some r) : Met l yX0_placesWith wsX0_placesWith ({ frames := 1, cells := 0, slots := 0, locals := 21 } : Room) (va_Pc [.ref (κ 3), .int p1] (xP D cI cII κ σ)) (QI D cI cII 31 κ (xC cI cII κ σ) r) 0 0 (gA 31 κ) := by
  refine g_enter (cc := cX0_placesWith) (maxL := 4) (ret := (some .int)) (by decide) rfl (Nat.le_of_ble_eq_true rfl) ?_
  intro p e s m args below meth c ls S hr hlk _ hB hl
  have S : CallFix p m c cX0_placesWith 4 s args wsX0_placesWith RX0 := S
  obtain ⟨hP, hK⟩ := hB
  have hl : lv_has ls 4 [(0, .ref (κ 3)), (1, .int p1)] := hl
  have hS : va_S (gA 31 κ) s.heap s.heap [] := va_S.rf
  have hA : ∀ k, k < 31 → gA 31 κ (κ k) := gA_in
  obtain ⟨hx, hb, hml, hown, hts⟩ := id S
  have hiX0 : ∀ w ∈ u_ws RX0 TX0 11, w ∈ wsX0_placesWith := by decide +kernel
  unfold fn_X0_placesWith at hf
  refine lv_iconst (v := 0) hx hb dX0_placesWith_0 (by decide) ?_
  obtain ⟨v1, ev1, hf⟩ := letb_w hf
  refine lv_nmi ev1 ?_
  refine lv_istore_n (lv' := [(2, .int v1), (0, .ref (κ 3)), (1, .int p1)]) hx hb dX0_placesWith_1 rfl hl (by decide) rfl (fun ls hl => ?_)
  refine lv_iconst (v := 0) hx hb dX0_placesWith_2 (by decide) ?_
  obtain ⟨v2, ev2, hf⟩ := letb_w hf
  refine lv_nmi ev2 ?_
  refine lv_istore_n (lv' := [(3, .int v2), (2, .int v1), (0, .ref (κ 3)), (1, .int p1)]) hx hb dX0_placesWith_3 rfl hl (by decide) rfl (fun ls hl => ?_)
  refine loopF_w (P := fun (g : Int32 → Int32 → Option (Int32)) => ∀ (x2_4 : Int32) (x3_4 : Int32), g x2_4 x3_4 = some r → ∀ (H : Heap) (locs : List Loc) (ls : Array Slot), va_P D vwCl (gw 31 κ (xC cI cII κ σ)) H → va_S (gA 31 κ) s.heap H locs → lv_has ls 4 [(0, .ref (κ 3)), (1, .int p1), (2, .int x2_4), (3, .int x3_4)] → W p l e ({ frames := 1, cells := 0, slots := 0, locals := 21 } : Room) s m args below meth c H locs 0 0 (MQ below (QI D cI cII 31 κ (xC cI cII κ σ) r) args s 0 0 (gA 31 κ)) (F0 m 4 ls [])) (fun _ _ h => by simp at h) ?_ FU _ _ hf _ _ _ hP hS (lv_sub hl [2, 3, 1, 0] rfl)
  intro rec4 ih4 x2_4 x3_4 hf H locs ls hP hS hl
  unfold bd_X0_placesWith_4 at hf
  refine lv_iload_n hx hb dX0_placesWith_4 rfl (lv_at hl 3 rfl) ?_
  refine lv_aload_n hx hb dX0_placesWith_5 rfl (lv_at hl 0 rfl) ?_
  refine g_get (q := 3) (ci := 0) (k := 3) (ref := RX0) (C := RX0) (T := TX0) (N := 11) (index := 54) (v := .int ((σ.1 4))) S hK hP hiX0 (by decide) rfl rfl (by decide) rfl (by decide +kernel) rfl dX0_placesWith_6 ?_
  refine lv_icmp_ge (tgt := 37) hx hb dX0_placesWith_9 (by decide) (fun c9 => ?_) (fun c9 => ?_)
  · have hf := iteT c9 hf
    refine lv_iload_n hx hb dX0_placesWith_37 rfl (lv_at hl 2 rfl) ?_
    exact g_iret S hr hlk hK hP hS (Option.some.inj hf) dX0_placesWith_38
  · have hf := iteF c9 hf
    refine lv_aload_n hx hb dX0_placesWith_12 rfl (lv_at hl 0 rfl) ?_
    refine g_get (q := 3) (ci := 0) (k := 4) (ref := RX0) (C := RX0) (T := TX0) (N := 11) (index := 19) (v := .ref (κ 9)) S hK hP hiX0 (by decide) rfl rfl (by decide) rfl (by decide +kernel) rfl dX0_placesWith_13 ?_
    refine lv_iload_n hx hb dX0_placesWith_16 rfl (lv_at hl 3 rfl) ?_
    obtain ⟨v3, hv3, hf⟩ := obw hf
    refine g_ald (a := 9) (len := 30) S hK hP (by decide) (xC_arr (by decide) rfl) hv3 dX0_placesWith_17 ?_
    refine lv_iload_n hx hb dX0_placesWith_18 rfl (lv_at hl 1 rfl) ?_
    obtain ⟨v4, hq19, hf⟩ := obw hf
    refine g_calli (va_runSN (As := [.int v3, .int p1]) (rest := []) S (met_X3_has l D cI cII κ hκ σ v3 p1 v4 hq19) ⟨va_cnB 2 S.2.2.2.2 gX0_placesWith_X3_has_n75 rfl rfl rfl hK.2.2.2.2.2.2.2.2.2.2.2 (S.2.2.2.2 (.initialized RX3) (by decide +kernel)) (by decide +kernel) ⟨Nat.le_of_ble_eq_true rfl, Nat.le_of_ble_eq_true rfl⟩, S.2.2.2.2 (.static yX3_has) (by decide +kernel), trivial⟩ (g_preS hK hP (Nat.le_refl _)) rfl rfl hl.1 rfl (lv_room (Nat.le_of_ble_eq_true rfl)) dX0_placesWith_19 ⟨Nat.le_of_ble_eq_true rfl, Nat.le_of_ble_eq_true rfl⟩) (Nat.le_refl _) hκ hA hP hS (fun j h1 h2 => absurd h2 (Nat.not_lt.mpr h1)) (fun H locs hP hS => ?_)
    obtain ⟨K31, hK31, hf⟩ := letb_w hf
    have J31 : ∀ (y2_31 : Int32), K31 y2_31 = some r → ∀ (H : Heap) (locs : List Loc) (ls : Array Slot), va_P D vwCl (gw 31 κ (xC cI cII κ σ)) H → va_S (gA 31 κ) s.heap H locs → lv_has ls 4 [(0, .ref (κ 3)), (1, .int p1), (2, .int y2_31), (3, .int x3_4)] → W p l e ({ frames := 1, cells := 0, slots := 0, locals := 21 } : Room) s m args below meth c H locs 0 0 (MQ below (QI D cI cII 31 κ (xC cI cII κ σ) r) args s 0 0 (gA 31 κ)) (F0 m 31 ls []) := by
      intro y2_31 hf H locs ls hP hS hl
      rw [hK31] at hf
      obtain ⟨v5, ev5, hf⟩ := letb_w hf
      refine lv_iinc (v := v5) (lv' := [(3, .int v5), (0, .ref (κ 3)), (1, .int p1), (2, .int y2_31)]) hx hb dX0_placesWith_31 hl (k := 3) rfl (by rw [ev5]; rfl) (by decide) rfl (fun ls hl => ?_)
      refine lv_goto (tgt := 4) hx hb dX0_placesWith_34 (by decide) ?_
      exact ih4 _ _ hf _ _ _ hP hS (lv_sub hl [1, 2, 3, 0] rfl)
    refine lv_if_eq (tgt := 31) hx hb dX0_placesWith_22 (by decide) (fun c22 => ?_) (fun c22 => ?_)
    · have hf := iteT c22 hf
      exact J31 _ hf _ _ _ hP hS (lv_sub hl [0, 1, 2, 3] rfl)
    · have hf := iteF c22 hf
      refine lv_iload_n hx hb dX0_placesWith_25 rfl (lv_at hl 2 rfl) ?_
      refine lv_iconst (v := 1) hx hb dX0_placesWith_26 (by decide) ?_
      refine lv_iload_n hx hb dX0_placesWith_27 rfl (lv_at hl 3 rfl) ?_
      refine lv_ishl hx hb dX0_placesWith_28 ?_
      refine lv_ior hx hb dX0_placesWith_29 ?_
      obtain ⟨v6, ev6, hf⟩ := letb_w hf
      refine lv_nmi ev6 ?_
      refine lv_istore_n (lv' := [(2, .int v6), (0, .ref (κ 3)), (1, .int p1), (3, .int x3_4)]) hx hb dX0_placesWith_30 rfl hl (by decide) rfl (fun ls hl => ?_)
      exact J31 _ hf _ _ _ hP hS (lv_sub hl [1, 2, 0, 3] rfl)

set_option maxRecDepth 100000 in
set_option maxHeartbeats 4000000 in
theorem met_X0_make (l : Launch) (D : va_G) (cI cII : ClassId) (κ : Nat → Nat) (hκ : Inj 31 κ) (σ : SX)  (σ' : SX) (hf : fn_X0_make σ  = some σ') : Met l yX0_make wsX0_make ({ frames := 5, cells := 0, slots := 0, locals := 112 } : Room) (va_Pc [.ref (κ 3)] (xP D cI cII κ σ)) (QV D cI cII 31 κ (xC cI cII κ σ')) 0 0 (gA 31 κ) := by
  refine g_enter (cc := cX0_make) (maxL := 2) (ret := none) (by decide) rfl (Nat.le_of_ble_eq_true rfl) ?_
  intro p e s m args below meth c ls S hr hlk _ hB hl
  have S : CallFix p m c cX0_make 2 s args wsX0_make RX0 := S
  obtain ⟨hP, hK⟩ := hB
  have hl : lv_has ls 2 [(0, .ref (κ 3))] := hl
  have hS : va_S (gA 31 κ) s.heap s.heap [] := va_S.rf
  have hA : ∀ k, k < 31 → gA 31 κ (κ k) := gA_in
  obtain ⟨hx, hb, hml, hown, hts⟩ := id S
  have hiX0 : ∀ w ∈ u_ws RX0 TX0 11, w ∈ wsX0_make := by decide +kernel
  unfold fn_X0_make at hf
  refine lv_aload_n hx hb dX0_make_0 rfl (lv_at hl 0 rfl) ?_
  obtain ⟨σ1, hq1, hf⟩ := obw hf
  refine g_callv (va_runV (As := []) (rest := []) S (met_X0_choosePlaces l D cI cII κ hκ σ σ1 hq1) (cwV 0 S.2.2.2.2 gX0_make_X0_choosePlaces rfl rfl rfl (by decide +kernel) ⟨Nat.le_of_ble_eq_true rfl, Nat.le_of_ble_eq_true rfl⟩) (g_preV (N := 11) (T := TX0) hK hP (Nat.le_refl _) (by decide) rfl rfl) rfl rfl hl.1 rfl (lv_room (Nat.le_of_ble_eq_true rfl)) dX0_make_1 ⟨Nat.le_of_ble_eq_true rfl, Nat.le_of_ble_eq_true rfl⟩) (Nat.le_refl _) hκ hA hP hS (fun j h1 h2 => absurd h2 (Nat.not_lt.mpr h1)) (fun H locs hP hS => ?_)
  refine lv_iconst (v := 0) hx hb dX0_make_4 (by decide) ?_
  obtain ⟨v2, ev2, hf⟩ := letb_w hf
  refine lv_nmi ev2 ?_
  refine lv_istore_n (lv' := [(1, .int v2), (0, .ref (κ 3))]) hx hb dX0_make_5 rfl hl (by decide) rfl (fun ls hl => ?_)
  refine loopF_w (P := fun (g : Int32 → SX → Option (SX)) => ∀ (x1_6 : Int32) (σ_6 : SX), g x1_6 σ_6 = some σ' → ∀ (H : Heap) (locs : List Loc) (ls : Array Slot), va_P D vwCl (gw 31 κ (xC cI cII κ σ_6)) H → va_S (gA 31 κ) s.heap H locs → lv_has ls 2 [(0, .ref (κ 3)), (1, .int x1_6)] → W p l e ({ frames := 5, cells := 0, slots := 0, locals := 112 } : Room) s m args below meth c H locs 0 0 (MQ below (QV D cI cII 31 κ (xC cI cII κ σ')) args s 0 0 (gA 31 κ)) (F0 m 6 ls [])) (fun _ _ h => by simp at h) ?_ FU _ _ hf _ _ _ hP hS (lv_sub hl [1, 0] rfl)
  intro rec6 ih6 x1_6 σ_6 hf H locs ls hP hS hl
  unfold bd_X0_make_6 at hf
  refine lv_iload_n hx hb dX0_make_6 rfl (lv_at hl 1 rfl) ?_
  refine lv_bipush (v := 6) hx hb dX0_make_7 (by decide) ?_
  refine lv_icmp_ge (tgt := 42) hx hb dX0_make_9 (by decide) (fun c9 => ?_) (fun c9 => ?_)
  · have hf := iteT c9 hf
    refine lv_aload_n hx hb dX0_make_42 rfl (lv_at hl 0 rfl) ?_
    refine lv_aload_n hx hb dX0_make_43 rfl (lv_at hl 0 rfl) ?_
    refine lv_iconst (v := 0) hx hb dX0_make_44 (by decide) ?_
    obtain ⟨v3, hq45, hf⟩ := obw hf
    refine g_calli (va_runV (As := [.int 0]) (rest := [.ref (κ 3)]) S (met_X0_placesWith l D cI cII κ hκ σ_6 0 v3 hq45) (cwV 1 S.2.2.2.2 gX0_make_X0_placesWith rfl rfl rfl (by decide +kernel) ⟨Nat.le_of_ble_eq_true rfl, Nat.le_of_ble_eq_true rfl⟩) (g_preV (N := 11) (T := TX0) hK hP (Nat.le_refl _) (by decide) rfl rfl) rfl rfl hl.1 rfl (lv_room (Nat.le_of_ble_eq_true rfl)) dX0_make_45 ⟨Nat.le_of_ble_eq_true rfl, Nat.le_of_ble_eq_true rfl⟩) (Nat.le_refl _) hκ hA hP hS (fun j h1 h2 => absurd h2 (Nat.not_lt.mpr h1)) (fun H locs hP hS => ?_)
    obtain ⟨σ4, eσ4, hf⟩ := letb_w hf
    refine g_put (q := 3) (ci := 0) (k := 7) (ref := RX0) (C := RX0) (T := TX0) (N := 11) (index := 43) (ty := .int) (f' := (xC cI cII κ σ4)) S hK hP hκ hA hS hiX0 tyX0_ok nmX0 (by decide) rfl rfl (by decide) rfl (by decide +kernel) rfl (by decide +kernel) rfl rfl (Nat.le_of_ble_eq_true rfl) (fun j _ => by rw [eσ4]; exact xC_p5 j) dX0_make_48 (fun H locs hP hS => ?_)
    refine lv_aload_n hx hb dX0_make_51 rfl (lv_at hl 0 rfl) ?_
    refine lv_iconst (v := 0) hx hb dX0_make_52 (by decide) ?_
    obtain ⟨σ5, eσ5, hf⟩ := letb_w hf
    refine g_put (q := 3) (ci := 0) (k := 10) (ref := RX0) (C := RX0) (T := TX0) (N := 11) (index := 47) (ty := .int) (f' := (xC cI cII κ σ5)) S hK hP hκ hA hS hiX0 tyX0_ok nmX0 (by decide) rfl rfl (by decide) rfl (by decide +kernel) rfl (by decide +kernel) rfl rfl (Nat.le_of_ble_eq_true rfl) (fun j _ => by rw [eσ5]; exact xC_p7 j) dX0_make_53 (fun H locs hP hS => ?_)
    refine lv_aload_n hx hb dX0_make_56 rfl (lv_at hl 0 rfl) ?_
    refine lv_iconst (v := 1) hx hb dX0_make_57 (by decide) ?_
    obtain ⟨σ6, eσ6, hf⟩ := letb_w hf
    refine g_put (q := 3) (ci := 0) (k := 2) (ref := RX0) (C := RX0) (T := TX0) (N := 11) (index := 50) (ty := .boolean) (f' := (xC cI cII κ σ6)) S hK hP hκ hA hS hiX0 tyX0_ok nmX0 (by decide) rfl rfl (by decide) rfl (by decide +kernel) rfl (by decide +kernel) rfl rfl (Nat.le_of_ble_eq_true rfl) (fun j _ => by rw [eσ6]; exact xC_p3 j) dX0_make_58 (fun H locs hP hS => ?_)
    obtain rfl := Option.some.inj hf
    exact g_vret S hr hlk hK hP hS dX0_make_61
  · have hf := iteF c9 hf
    refine lv_aload_n hx hb dX0_make_12 rfl (lv_at hl 0 rfl) ?_
    refine g_get (q := 3) (ci := 0) (k := 5) (ref := RX0) (C := RX0) (T := TX0) (N := 11) (index := 23) (v := .ref (κ 10)) S hK hP hiX0 (by decide) rfl rfl (by decide) rfl (by decide +kernel) rfl dX0_make_13 ?_
    refine lv_iload_n hx hb dX0_make_16 rfl (lv_at hl 1 rfl) ?_
    refine lv_aload_n hx hb dX0_make_17 rfl (lv_at hl 0 rfl) ?_
    refine lv_iload_n hx hb dX0_make_18 rfl (lv_at hl 1 rfl) ?_
    refine lv_iconst (v := 2) hx hb dX0_make_19 (by decide) ?_
    obtain ⟨v7, hq20, hf⟩ := obw hf
    refine g_calli (va_runV (As := [.int x1_6, .int 2]) (rest := [.int x1_6, .ref (κ 10)]) S (met_X0_placesCrossed l D cI cII κ hκ σ_6 x1_6 2 v7 hq20) (cwV 2 S.2.2.2.2 gX0_make_X0_placesCrossed rfl rfl rfl (by decide +kernel) ⟨Nat.le_of_ble_eq_true rfl, Nat.le_of_ble_eq_true rfl⟩) (g_preV (N := 11) (T := TX0) hK hP (Nat.le_refl _) (by decide) rfl rfl) rfl rfl hl.1 rfl (lv_room (Nat.le_of_ble_eq_true rfl)) dX0_make_20 ⟨Nat.le_of_ble_eq_true rfl, Nat.le_of_ble_eq_true rfl⟩) (Nat.le_refl _) hκ hA hP hS (fun j h1 h2 => absurd h2 (Nat.not_lt.mpr h1)) (fun H locs hP hS => ?_)
    obtain ⟨σ8, hσ8, hf⟩ := obw hf
    refine g_ast (a := 10) (len := 6) (f' := (xC cI cII κ σ8)) S hK hP hκ hA hS (by decide) (xC_arr (by decide) rfl) hσ8 (fun j _ => xC_as hσ8 (by decide) rfl j) dX0_make_23 (fun H locs hP hS => ?_)
    refine lv_aload_n hx hb dX0_make_24 rfl (lv_at hl 0 rfl) ?_
    refine g_get (q := 3) (ci := 0) (k := 6) (ref := RX0) (C := RX0) (T := TX0) (N := 11) (index := 26) (v := .ref (κ 11)) S hK hP hiX0 (by decide) rfl rfl (by decide) rfl (by decide +kernel) rfl dX0_make_25 ?_
    refine lv_iload_n hx hb dX0_make_28 rfl (lv_at hl 1 rfl) ?_
    refine lv_aload_n hx hb dX0_make_29 rfl (lv_at hl 0 rfl) ?_
    refine lv_iload_n hx hb dX0_make_30 rfl (lv_at hl 1 rfl) ?_
    refine lv_iconst (v := 1) hx hb dX0_make_31 (by decide) ?_
    obtain ⟨v9, hq32, hf⟩ := obw hf
    refine g_calli (va_runV (As := [.int x1_6, .int 1]) (rest := [.int x1_6, .ref (κ 11)]) S (met_X0_placesCrossed l D cI cII κ hκ σ8 x1_6 1 v9 hq32) (cwV 2 S.2.2.2.2 gX0_make_X0_placesCrossed rfl rfl rfl (by decide +kernel) ⟨Nat.le_of_ble_eq_true rfl, Nat.le_of_ble_eq_true rfl⟩) (g_preV (N := 11) (T := TX0) hK hP (Nat.le_refl _) (by decide) rfl rfl) rfl rfl hl.1 rfl (lv_room (Nat.le_of_ble_eq_true rfl)) dX0_make_32 ⟨Nat.le_of_ble_eq_true rfl, Nat.le_of_ble_eq_true rfl⟩) (Nat.le_refl _) hκ hA hP hS (fun j h1 h2 => absurd h2 (Nat.not_lt.mpr h1)) (fun H locs hP hS => ?_)
    obtain ⟨σ10, hσ10, hf⟩ := obw hf
    refine g_ast (a := 11) (len := 6) (f' := (xC cI cII κ σ10)) S hK hP hκ hA hS (by decide) (xC_arr (by decide) rfl) hσ10 (fun j _ => xC_as hσ10 (by decide) rfl j) dX0_make_35 (fun H locs hP hS => ?_)
    obtain ⟨v11, ev11, hf⟩ := letb_w hf
    refine lv_iinc (v := v11) (lv' := [(1, .int v11), (0, .ref (κ 3))]) hx hb dX0_make_36 hl (k := 1) rfl (by rw [ev11]; rfl) (by decide) rfl (fun ls hl => ?_)
    refine lv_goto (tgt := 6) hx hb dX0_make_39 (by decide) ?_
    exact ih6 _ _ hf _ _ _ hP hS (lv_sub hl [1, 0] rfl)

set_option maxRecDepth 100000 in
set_option maxHeartbeats 4000000 in
theorem met_X0_regionOf (l : Launch) (D : va_G) (cI cII : ClassId) (κ : Nat → Nat) (hκ : Inj 31 κ) (σ : SX) (p1 : Int32) (r : Int32) (hf : fn_X0_regionOf σ p1 = some r) : Met l yX0_regionOf wsX0_regionOf ({ frames := 0, cells := 0, slots := 0, locals := 0 } : Room) (va_Pc [.ref (κ 3), .int p1] (xP D cI cII κ σ)) (QI D cI cII 31 κ (xC cI cII κ σ) r) 0 0 (gA 31 κ) := by
  refine g_enter (cc := cX0_regionOf) (maxL := 2) (ret := (some .int)) (by decide) rfl (Nat.le_of_ble_eq_true rfl) ?_
  intro p e s m args below meth c ls S hr hlk _ hB hl
  have S : CallFix p m c cX0_regionOf 2 s args wsX0_regionOf RX0 := S
  obtain ⟨hP, hK⟩ := hB
  have hl : lv_has ls 2 [(0, .ref (κ 3)), (1, .int p1)] := hl
  have hS : va_S (gA 31 κ) s.heap s.heap [] := va_S.rf
  have hA : ∀ k, k < 31 → gA 31 κ (κ k) := gA_in
  obtain ⟨hx, hb, hml, hown, hts⟩ := id S
  have hiX0 : ∀ w ∈ u_ws RX0 TX0 11, w ∈ wsX0_regionOf := by decide +kernel
  unfold fn_X0_regionOf at hf
  refine lv_aload_n hx hb dX0_regionOf_0 rfl (lv_at hl 0 rfl) ?_
  refine g_get (q := 3) (ci := 0) (k := 4) (ref := RX0) (C := RX0) (T := TX0) (N := 11) (index := 19) (v := .ref (κ 9)) S hK hP hiX0 (by decide) rfl rfl (by decide) rfl (by decide +kernel) rfl dX0_regionOf_1 ?_
  refine lv_iload_n hx hb dX0_regionOf_4 rfl (lv_at hl 1 rfl) ?_
  obtain ⟨v1, hv1, hf⟩ := obw hf
  refine g_ald (a := 9) (len := 30) S hK hP (by decide) (xC_arr (by decide) rfl) hv1 dX0_regionOf_5 ?_
  exact g_iret S hr hlk hK hP hS (Option.some.inj hf) dX0_regionOf_6

set_option maxRecDepth 100000 in
set_option maxHeartbeats 4000000 in
theorem met_X0_canFire (l : Launch) (D : va_G) (cI cII : ClassId) (κ : Nat → Nat) (hκ : Inj 31 κ) (σ : SX) (p1 : Int32) (p2 : Int32) (r : Int32) (hf : fn_X0_canFire σ p1 p2 = some r) : Met l yX0_canFire wsX0_canFire ({ frames := 1, cells := 0, slots := 0, locals := 21 } : Room) (va_Pc [.ref (κ 3), .int p1, .int p2] (xP D cI cII κ σ)) (QI D cI cII 31 κ (xC cI cII κ σ) r) 0 0 (gA 31 κ) := by
  refine g_enter (cc := cX0_canFire) (maxL := 3) (ret := (some .boolean)) (by decide) rfl (Nat.le_of_ble_eq_true rfl) ?_
  intro p e s m args below meth c ls S hr hlk _ hB hl
  have S : CallFix p m c cX0_canFire 3 s args wsX0_canFire RX0 := S
  obtain ⟨hP, hK⟩ := hB
  have hl : lv_has ls 3 [(0, .ref (κ 3)), (1, .int p1), (2, .int p2)] := hl
  have hS : va_S (gA 31 κ) s.heap s.heap [] := va_S.rf
  have hA : ∀ k, k < 31 → gA 31 κ (κ k) := gA_in
  obtain ⟨hx, hb, hml, hown, hts⟩ := id S
  have hiX0 : ∀ w ∈ u_ws RX0 TX0 11, w ∈ wsX0_canFire := by decide +kernel
  unfold fn_X0_canFire at hf
  refine lv_aload_n hx hb dX0_canFire_0 rfl (lv_at hl 0 rfl) ?_
  refine g_get (q := 3) (ci := 0) (k := 0) (ref := RX0) (C := RX0) (T := TX0) (N := 11) (index := 9) (v := .ref (κ 1)) S hK hP hiX0 (by decide) rfl rfl (by decide) rfl (by decide +kernel) rfl dX0_canFire_1 ?_
  refine lv_iload_n hx hb dX0_canFire_4 rfl (lv_at hl 1 rfl) ?_
  obtain ⟨v1, hq5, hf⟩ := obw hf
  refine g_calli (va_runV (As := [.int p1]) (rest := []) S (met_X2_beginning l D cI cII κ hκ σ p1 v1 hq5) (cwV 1 S.2.2.2.2 gX0_canFire_X2_beginning rfl rfl rfl (by decide +kernel) ⟨Nat.le_of_ble_eq_true rfl, Nat.le_of_ble_eq_true rfl⟩) (g_preV (N := 5) (T := TX2) hK hP (Nat.le_refl _) (by decide) rfl rfl) rfl rfl hl.1 rfl (lv_room (Nat.le_of_ble_eq_true rfl)) dX0_canFire_5 ⟨Nat.le_of_ble_eq_true rfl, Nat.le_of_ble_eq_true rfl⟩) (Nat.le_refl _) hκ hA hP hS (fun j h1 h2 => absurd h2 (Nat.not_lt.mpr h1)) (fun H locs hP hS => ?_)
  obtain ⟨K43, hK43, hf⟩ := letb_w hf
  have J43 : ∀ (_u : Unit), K43 _u = some r → ∀ (H : Heap) (locs : List Loc) (ls : Array Slot), va_P D vwCl (gw 31 κ (xC cI cII κ σ)) H → va_S (gA 31 κ) s.heap H locs → lv_has ls 3 [] → W p l e ({ frames := 1, cells := 0, slots := 0, locals := 21 } : Room) s m args below meth c H locs 0 0 (MQ below (QI D cI cII 31 κ (xC cI cII κ σ) r) args s 0 0 (gA 31 κ)) (F0 m 43 ls []) := by
    intro _u hf H locs ls hP hS hl
    rw [hK43] at hf
    refine lv_iconst (v := 0) hx hb dX0_canFire_43 (by decide) ?_
    exact g_zret S hr hlk hK hP hS hf dX0_canFire_44
  refine lv_if_eq (tgt := 43) hx hb dX0_canFire_8 (by decide) (fun c8 => ?_) (fun c8 => ?_)
  · have hf := iteT c8 hf
    exact J43 _ hf _ _ _ hP hS (lv_sub hl [] rfl)
  · have hf := iteF c8 hf
    refine lv_iload_n hx hb dX0_canFire_11 rfl (lv_at hl 2 rfl) ?_
    refine lv_aload_n hx hb dX0_canFire_12 rfl (lv_at hl 0 rfl) ?_
    refine g_get (q := 3) (ci := 0) (k := 5) (ref := RX0) (C := RX0) (T := TX0) (N := 11) (index := 23) (v := .ref (κ 10)) S hK hP hiX0 (by decide) rfl rfl (by decide) rfl (by decide +kernel) rfl dX0_canFire_13 ?_
    refine lv_iload_n hx hb dX0_canFire_16 rfl (lv_at hl 1 rfl) ?_
    obtain ⟨v2, hv2, hf⟩ := obw hf
    refine g_ald (a := 10) (len := 6) S hK hP (by decide) (xC_arr (by decide) rfl) hv2 dX0_canFire_17 ?_
    refine lv_iand hx hb dX0_canFire_18 ?_
    refine lv_aload_n hx hb dX0_canFire_19 rfl (lv_at hl 0 rfl) ?_
    refine g_get (q := 3) (ci := 0) (k := 5) (ref := RX0) (C := RX0) (T := TX0) (N := 11) (index := 23) (v := .ref (κ 10)) S hK hP hiX0 (by decide) rfl rfl (by decide) rfl (by decide +kernel) rfl dX0_canFire_20 ?_
    refine lv_iload_n hx hb dX0_canFire_23 rfl (lv_at hl 1 rfl) ?_
    obtain ⟨v3, hv3, hf⟩ := obw hf
    refine g_ald (a := 10) (len := 6) S hK hP (by decide) (xC_arr (by decide) rfl) hv3 dX0_canFire_24 ?_
    refine lv_icmp_ne (tgt := 43) hx hb dX0_canFire_25 (by decide) (fun c25 => ?_) (fun c25 => ?_)
    · have hf := iteT c25 hf
      exact J43 _ hf _ _ _ hP hS (lv_sub hl [] rfl)
    · have hf := iteN c25 hf
      refine lv_iload_n hx hb dX0_canFire_28 rfl (lv_at hl 2 rfl) ?_
      refine lv_aload_n hx hb dX0_canFire_29 rfl (lv_at hl 0 rfl) ?_
      refine g_get (q := 3) (ci := 0) (k := 6) (ref := RX0) (C := RX0) (T := TX0) (N := 11) (index := 26) (v := .ref (κ 11)) S hK hP hiX0 (by decide) rfl rfl (by decide) rfl (by decide +kernel) rfl dX0_canFire_30 ?_
      refine lv_iload_n hx hb dX0_canFire_33 rfl (lv_at hl 1 rfl) ?_
      obtain ⟨v4, hv4, hf⟩ := obw hf
      refine g_ald (a := 11) (len := 6) S hK hP (by decide) (xC_arr (by decide) rfl) hv4 dX0_canFire_34 ?_
      refine lv_iand hx hb dX0_canFire_35 ?_
      refine lv_if_ne (tgt := 43) hx hb dX0_canFire_36 (by decide) (fun c36 => ?_) (fun c36 => ?_)
      · have hf := iteT c36 hf
        exact J43 _ hf _ _ _ hP hS (lv_sub hl [] rfl)
      · have hf := iteN c36 hf
        refine lv_iconst (v := 1) hx hb dX0_canFire_39 (by decide) ?_
        refine lv_goto (tgt := 44) hx hb dX0_canFire_40 (by decide) ?_
        exact g_zret S hr hlk hK hP hS hf dX0_canFire_44

set_option maxRecDepth 100000 in
set_option maxHeartbeats 4000000 in
theorem met_X0_behind (l : Launch) (D : va_G) (cI cII : ClassId) (κ : Nat → Nat) (hκ : Inj 31 κ) (σ : SX) (p1 : Int32) (p2 : Int32) (r : Int32) (hf : fn_X0_behind σ p1 p2 = some r) : Met l yX0_behind wsX0_behind ({ frames := 0, cells := 0, slots := 0, locals := 0 } : Room) (va_Pc [.ref (κ 3), .int p1, .int p2] (xP D cI cII κ σ)) (QI D cI cII 31 κ (xC cI cII κ σ) r) 0 0 (gA 31 κ) := by
  refine g_enter (cc := cX0_behind) (maxL := 3) (ret := (some .int)) (by decide) rfl (Nat.le_of_ble_eq_true rfl) ?_
  intro p e s m args below meth c ls S hr hlk _ hB hl
  have S : CallFix p m c cX0_behind 3 s args wsX0_behind RX0 := S
  obtain ⟨hP, hK⟩ := hB
  have hl : lv_has ls 3 [(0, .ref (κ 3)), (1, .int p1), (2, .int p2)] := hl
  have hS : va_S (gA 31 κ) s.heap s.heap [] := va_S.rf
  have hA : ∀ k, k < 31 → gA 31 κ (κ k) := gA_in
  obtain ⟨hx, hb, hml, hown, hts⟩ := id S
  have hiX0 : ∀ w ∈ u_ws RX0 TX0 11, w ∈ wsX0_behind := by decide +kernel
  unfold fn_X0_behind at hf
  refine lv_iload_n hx hb dX0_behind_0 rfl (lv_at hl 2 rfl) ?_
  refine lv_aload_n hx hb dX0_behind_1 rfl (lv_at hl 0 rfl) ?_
  refine g_get (q := 3) (ci := 0) (k := 5) (ref := RX0) (C := RX0) (T := TX0) (N := 11) (index := 23) (v := .ref (κ 10)) S hK hP hiX0 (by decide) rfl rfl (by decide) rfl (by decide +kernel) rfl dX0_behind_2 ?_
  refine lv_iload_n hx hb dX0_behind_5 rfl (lv_at hl 1 rfl) ?_
  obtain ⟨v1, hv1, hf⟩ := obw hf
  refine g_ald (a := 10) (len := 6) S hK hP (by decide) (xC_arr (by decide) rfl) hv1 dX0_behind_6 ?_
  refine lv_iconst (v := -1) hx hb dX0_behind_7 (by decide) ?_
  refine lv_ixor hx hb dX0_behind_8 ?_
  refine lv_iand hx hb dX0_behind_9 ?_
  refine lv_aload_n hx hb dX0_behind_10 rfl (lv_at hl 0 rfl) ?_
  refine g_get (q := 3) (ci := 0) (k := 6) (ref := RX0) (C := RX0) (T := TX0) (N := 11) (index := 26) (v := .ref (κ 11)) S hK hP hiX0 (by decide) rfl rfl (by decide) rfl (by decide +kernel) rfl dX0_behind_11 ?_
  refine lv_iload_n hx hb dX0_behind_14 rfl (lv_at hl 1 rfl) ?_
  obtain ⟨v2, hv2, hf⟩ := obw hf
  refine g_ald (a := 11) (len := 6) S hK hP (by decide) (xC_arr (by decide) rfl) hv2 dX0_behind_15 ?_
  refine lv_ior hx hb dX0_behind_16 ?_
  exact g_iret S hr hlk hK hP hS (Option.some.inj hf) dX0_behind_17

set_option maxRecDepth 100000 in
set_option maxHeartbeats 4000000 in
theorem met_X0_keepNew (l : Launch) (D : va_G) (cI cII : ClassId) (κ : Nat → Nat) (hκ : Inj 31 κ) (σ : SX) (p1 : Int32) (σ' : SX) (hf : fn_X0_keepNew σ p1 = some σ') : Met l yX0_keepNew wsX0_keepNew ({ frames := 0, cells := 0, slots := 0, locals := 0 } : Room) (va_Pc [.ref (κ 3), .int p1] (xP D cI cII κ σ)) (QV D cI cII 31 κ (xC cI cII κ σ')) 0 0 (gA 31 κ) := by
  refine g_enter (cc := cX0_keepNew) (maxL := 3) (ret := none) (by decide) rfl (Nat.le_of_ble_eq_true rfl) ?_
  intro p e s m args below meth c ls S hr hlk _ hB hl
  have S : CallFix p m c cX0_keepNew 3 s args wsX0_keepNew RX0 := S
  obtain ⟨hP, hK⟩ := hB
  have hl : lv_has ls 3 [(0, .ref (κ 3)), (1, .int p1)] := hl
  have hS : va_S (gA 31 κ) s.heap s.heap [] := va_S.rf
  have hA : ∀ k, k < 31 → gA 31 κ (κ k) := gA_in
  obtain ⟨hx, hb, hml, hown, hts⟩ := id S
  have hiX0 : ∀ w ∈ u_ws RX0 TX0 11, w ∈ wsX0_keepNew := by decide +kernel
  unfold fn_X0_keepNew at hf
  refine lv_aload_n hx hb dX0_keepNew_0 rfl (lv_at hl 0 rfl) ?_
  refine g_get (q := 3) (ci := 0) (k := 10) (ref := RX0) (C := RX0) (T := TX0) (N := 11) (index := 47) (v := .int ((σ.1 7))) S hK hP hiX0 (by decide) rfl rfl (by decide) rfl (by decide +kernel) rfl dX0_keepNew_1 ?_
  refine lv_sipush (v := 200) hx hb dX0_keepNew_4 (by decide) ?_
  refine lv_icmp_lt (tgt := 11) hx hb dX0_keepNew_7 (by decide) (fun c7 => ?_) (fun c7 => ?_)
  · have hf := iteT c7 hf
    refine lv_iconst (v := 0) hx hb dX0_keepNew_11 (by decide) ?_
    obtain ⟨v1, ev1, hf⟩ := letb_w hf
    refine lv_nmi ev1 ?_
    refine lv_istore_n (lv' := [(2, .int v1), (0, .ref (κ 3)), (1, .int p1)]) hx hb dX0_keepNew_12 rfl hl (by decide) rfl (fun ls hl => ?_)
    refine loopF_w (P := fun (g : Int32 → Option (SX)) => ∀ (x2_13 : Int32), g x2_13 = some σ' → ∀ (H : Heap) (locs : List Loc) (ls : Array Slot), va_P D vwCl (gw 31 κ (xC cI cII κ σ)) H → va_S (gA 31 κ) s.heap H locs → lv_has ls 3 [(0, .ref (κ 3)), (1, .int p1), (2, .int x2_13)] → W p l e ({ frames := 0, cells := 0, slots := 0, locals := 0 } : Room) s m args below meth c H locs 0 0 (MQ below (QV D cI cII 31 κ (xC cI cII κ σ')) args s 0 0 (gA 31 κ)) (F0 m 13 ls [])) (fun _ h => by simp at h) ?_ FU _ hf _ _ _ hP hS (lv_sub hl [1, 2, 0] rfl)
    intro rec13 ih13 x2_13 hf H locs ls hP hS hl
    unfold bd_X0_keepNew_13 at hf
    refine lv_iload_n hx hb dX0_keepNew_13 rfl (lv_at hl 2 rfl) ?_
    refine lv_aload_n hx hb dX0_keepNew_14 rfl (lv_at hl 0 rfl) ?_
    refine g_get (q := 3) (ci := 0) (k := 10) (ref := RX0) (C := RX0) (T := TX0) (N := 11) (index := 47) (v := .int ((σ.1 7))) S hK hP hiX0 (by decide) rfl rfl (by decide) rfl (by decide +kernel) rfl dX0_keepNew_15 ?_
    refine lv_icmp_ge (tgt := 38) hx hb dX0_keepNew_18 (by decide) (fun c18 => ?_) (fun c18 => ?_)
    · have hf := iteT c18 hf
      refine lv_aload_n hx hb dX0_keepNew_38 rfl (lv_at hl 0 rfl) ?_
      refine g_get (q := 3) (ci := 0) (k := 9) (ref := RX0) (C := RX0) (T := TX0) (N := 11) (index := 29) (v := .ref (κ 12)) S hK hP hiX0 (by decide) rfl rfl (by decide) rfl (by decide +kernel) rfl dX0_keepNew_39 ?_
      refine lv_aload_n hx hb dX0_keepNew_42 rfl (lv_at hl 0 rfl) ?_
      refine g_get (q := 3) (ci := 0) (k := 10) (ref := RX0) (C := RX0) (T := TX0) (N := 11) (index := 47) (v := .int ((σ.1 7))) S hK hP hiX0 (by decide) rfl rfl (by decide) rfl (by decide +kernel) rfl dX0_keepNew_43 ?_
      refine lv_iload_n hx hb dX0_keepNew_46 rfl (lv_at hl 1 rfl) ?_
      obtain ⟨σ2, hσ2, hf⟩ := obw hf
      refine g_ast (a := 12) (len := 200) (f' := (xC cI cII κ σ2)) S hK hP hκ hA hS (by decide) (xC_arr (by decide) rfl) hσ2 (fun j _ => xC_as hσ2 (by decide) rfl j) dX0_keepNew_47 (fun H locs hP hS => ?_)
      refine lv_aload_n hx hb dX0_keepNew_48 rfl (lv_at hl 0 rfl) ?_
      refine lv_dup hx hb dX0_keepNew_49 rfl ?_
      refine g_get (q := 3) (ci := 0) (k := 10) (ref := RX0) (C := RX0) (T := TX0) (N := 11) (index := 47) (v := .int ((σ2.1 7))) S hK hP hiX0 (by decide) rfl rfl (by decide) rfl (by decide +kernel) rfl dX0_keepNew_50 ?_
      refine lv_iconst (v := 1) hx hb dX0_keepNew_53 (by decide) ?_
      refine lv_iadd hx hb dX0_keepNew_54 ?_
      obtain ⟨σ3, eσ3, hf⟩ := letb_w hf
      refine g_put (q := 3) (ci := 0) (k := 10) (ref := RX0) (C := RX0) (T := TX0) (N := 11) (index := 47) (ty := .int) (f' := (xC cI cII κ σ3)) S hK hP hκ hA hS hiX0 tyX0_ok nmX0 (by decide) rfl rfl (by decide) rfl (by decide +kernel) rfl (by decide +kernel) rfl rfl (Nat.le_of_ble_eq_true rfl) (fun j _ => by rw [eσ3]; exact xC_p7 j) dX0_keepNew_55 (fun H locs hP hS => ?_)
      obtain rfl := Option.some.inj hf
      exact g_vret S hr hlk hK hP hS dX0_keepNew_58
    · have hf := iteF c18 hf
      refine lv_aload_n hx hb dX0_keepNew_21 rfl (lv_at hl 0 rfl) ?_
      refine g_get (q := 3) (ci := 0) (k := 9) (ref := RX0) (C := RX0) (T := TX0) (N := 11) (index := 29) (v := .ref (κ 12)) S hK hP hiX0 (by decide) rfl rfl (by decide) rfl (by decide +kernel) rfl dX0_keepNew_22 ?_
      refine lv_iload_n hx hb dX0_keepNew_25 rfl (lv_at hl 2 rfl) ?_
      obtain ⟨v4, hv4, hf⟩ := obw hf
      refine g_ald (a := 12) (len := 200) S hK hP (by decide) (xC_arr (by decide) rfl) hv4 dX0_keepNew_26 ?_
      refine lv_iload_n hx hb dX0_keepNew_27 rfl (lv_at hl 1 rfl) ?_
      refine lv_icmp_ne (tgt := 32) hx hb dX0_keepNew_28 (by decide) (fun c28 => ?_) (fun c28 => ?_)
      · have hf := iteT c28 hf
        obtain ⟨v5, ev5, hf⟩ := letb_w hf
        refine lv_iinc (v := v5) (lv' := [(2, .int v5), (0, .ref (κ 3)), (1, .int p1)]) hx hb dX0_keepNew_32 hl (k := 2) rfl (by rw [ev5]; rfl) (by decide) rfl (fun ls hl => ?_)
        refine lv_goto (tgt := 13) hx hb dX0_keepNew_35 (by decide) ?_
        exact ih13 _ hf _ _ _ hP hS (lv_sub hl [1, 2, 0] rfl)
      · have hf := iteN c28 hf
        obtain rfl := Option.some.inj hf
        exact g_vret S hr hlk hK hP hS dX0_keepNew_31
  · have hf := iteF c7 hf
    obtain rfl := Option.some.inj hf
    exact g_vret S hr hlk hK hP hS dX0_keepNew_10

set_option maxRecDepth 100000 in
set_option maxHeartbeats 4000000 in
theorem met_X0_findMarkings (l : Launch) (D : va_G) (cI cII : ClassId) (κ : Nat → Nat) (hκ : Inj 31 κ) (σ : SX)  (σ' : SX) (hf : fn_X0_findMarkings σ  = some σ') : Met l yX0_findMarkings wsX0_findMarkings ({ frames := 2, cells := 0, slots := 0, locals := 43 } : Room) (va_Pc [.ref (κ 3)] (xP D cI cII κ σ)) (QV D cI cII 31 κ (xC cI cII κ σ')) 0 0 (gA 31 κ) := by
  refine g_enter (cc := cX0_findMarkings) (maxL := 3) (ret := none) (by decide) rfl (Nat.le_of_ble_eq_true rfl) ?_
  intro p e s m args below meth c ls S hr hlk _ hB hl
  have S : CallFix p m c cX0_findMarkings 3 s args wsX0_findMarkings RX0 := S
  obtain ⟨hP, hK⟩ := hB
  have hl : lv_has ls 3 [(0, .ref (κ 3))] := hl
  have hS : va_S (gA 31 κ) s.heap s.heap [] := va_S.rf
  have hA : ∀ k, k < 31 → gA 31 κ (κ k) := gA_in
  obtain ⟨hx, hb, hml, hown, hts⟩ := id S
  have hiX0 : ∀ w ∈ u_ws RX0 TX0 11, w ∈ wsX0_findMarkings := by decide +kernel
  unfold fn_X0_findMarkings at hf
  refine lv_aload_n hx hb dX0_findMarkings_0 rfl (lv_at hl 0 rfl) ?_
  refine g_get (q := 3) (ci := 0) (k := 9) (ref := RX0) (C := RX0) (T := TX0) (N := 11) (index := 29) (v := .ref (κ 12)) S hK hP hiX0 (by decide) rfl rfl (by decide) rfl (by decide +kernel) rfl dX0_findMarkings_1 ?_
  refine lv_iconst (v := 0) hx hb dX0_findMarkings_4 (by decide) ?_
  refine lv_aload_n hx hb dX0_findMarkings_5 rfl (lv_at hl 0 rfl) ?_
  refine g_get (q := 3) (ci := 0) (k := 7) (ref := RX0) (C := RX0) (T := TX0) (N := 11) (index := 43) (v := .int ((σ.1 5))) S hK hP hiX0 (by decide) rfl rfl (by decide) rfl (by decide +kernel) rfl dX0_findMarkings_6 ?_
  obtain ⟨σ1, hσ1, hf⟩ := obw hf
  refine g_ast (a := 12) (len := 200) (f' := (xC cI cII κ σ1)) S hK hP hκ hA hS (by decide) (xC_arr (by decide) rfl) hσ1 (fun j _ => xC_as hσ1 (by decide) rfl j) dX0_findMarkings_9 (fun H locs hP hS => ?_)
  refine lv_aload_n hx hb dX0_findMarkings_10 rfl (lv_at hl 0 rfl) ?_
  refine lv_iconst (v := 1) hx hb dX0_findMarkings_11 (by decide) ?_
  obtain ⟨σ2, eσ2, hf⟩ := letb_w hf
  refine g_put (q := 3) (ci := 0) (k := 10) (ref := RX0) (C := RX0) (T := TX0) (N := 11) (index := 47) (ty := .int) (f' := (xC cI cII κ σ2)) S hK hP hκ hA hS hiX0 tyX0_ok nmX0 (by decide) rfl rfl (by decide) rfl (by decide +kernel) rfl (by decide +kernel) rfl rfl (Nat.le_of_ble_eq_true rfl) (fun j _ => by rw [eσ2]; exact xC_p7 j) dX0_findMarkings_12 (fun H locs hP hS => ?_)
  refine lv_iconst (v := 0) hx hb dX0_findMarkings_15 (by decide) ?_
  obtain ⟨v3, ev3, hf⟩ := letb_w hf
  refine lv_nmi ev3 ?_
  refine lv_istore_n (lv' := [(1, .int v3), (0, .ref (κ 3))]) hx hb dX0_findMarkings_16 rfl hl (by decide) rfl (fun ls hl => ?_)
  refine loopF_w (P := fun (g : Int32 → SX → Option (SX)) => ∀ (x1_17 : Int32) (σ_17 : SX), g x1_17 σ_17 = some σ' → ∀ (H : Heap) (locs : List Loc) (ls : Array Slot), va_P D vwCl (gw 31 κ (xC cI cII κ σ_17)) H → va_S (gA 31 κ) s.heap H locs → lv_has ls 3 [(0, .ref (κ 3)), (1, .int x1_17)] → W p l e ({ frames := 2, cells := 0, slots := 0, locals := 43 } : Room) s m args below meth c H locs 0 0 (MQ below (QV D cI cII 31 κ (xC cI cII κ σ')) args s 0 0 (gA 31 κ)) (F0 m 17 ls [])) (fun _ _ h => by simp at h) ?_ FU _ _ hf _ _ _ hP hS (lv_sub hl [1, 0] rfl)
  intro rec17 ih17 x1_17 σ_17 hf H locs ls hP hS hl
  unfold bd_X0_findMarkings_17 at hf
  refine lv_iload_n hx hb dX0_findMarkings_17 rfl (lv_at hl 1 rfl) ?_
  refine lv_sipush (v := 200) hx hb dX0_findMarkings_18 (by decide) ?_
  refine lv_icmp_ge (tgt := 81) hx hb dX0_findMarkings_21 (by decide) (fun c21 => ?_) (fun c21 => ?_)
  · have hf := iteT c21 hf
    obtain rfl := Option.some.inj hf
    exact g_vret S hr hlk hK hP hS dX0_findMarkings_81
  · have hf := iteF c21 hf
    refine lv_iload_n hx hb dX0_findMarkings_24 rfl (lv_at hl 1 rfl) ?_
    refine lv_aload_n hx hb dX0_findMarkings_25 rfl (lv_at hl 0 rfl) ?_
    refine g_get (q := 3) (ci := 0) (k := 10) (ref := RX0) (C := RX0) (T := TX0) (N := 11) (index := 47) (v := .int ((σ_17.1 7))) S hK hP hiX0 (by decide) rfl rfl (by decide) rfl (by decide +kernel) rfl dX0_findMarkings_26 ?_
    refine lv_icmp_ge (tgt := 81) hx hb dX0_findMarkings_29 (by decide) (fun c29 => ?_) (fun c29 => ?_)
    · have hf := iteT c29 hf
      obtain rfl := Option.some.inj hf
      exact g_vret S hr hlk hK hP hS dX0_findMarkings_81
    · have hf := iteF c29 hf
      refine lv_iconst (v := 0) hx hb dX0_findMarkings_32 (by decide) ?_
      obtain ⟨v4, ev4, hf⟩ := letb_w hf
      refine lv_nmi ev4 ?_
      refine lv_istore_n (lv' := [(2, .int v4), (0, .ref (κ 3)), (1, .int x1_17)]) hx hb dX0_findMarkings_33 rfl hl (by decide) rfl (fun ls hl => ?_)
      refine loopF_w (P := fun (g : Int32 → SX → Option (SX)) => ∀ (x2_34 : Int32) (σ_34 : SX), g x2_34 σ_34 = some σ' → ∀ (H : Heap) (locs : List Loc) (ls : Array Slot), va_P D vwCl (gw 31 κ (xC cI cII κ σ_34)) H → va_S (gA 31 κ) s.heap H locs → lv_has ls 3 [(0, .ref (κ 3)), (1, .int x1_17), (2, .int x2_34)] → W p l e ({ frames := 2, cells := 0, slots := 0, locals := 43 } : Room) s m args below meth c H locs 0 0 (MQ below (QV D cI cII 31 κ (xC cI cII κ σ')) args s 0 0 (gA 31 κ)) (F0 m 34 ls [])) (fun _ _ h => by simp at h) ?_ FU _ _ hf _ _ _ hP hS (lv_sub hl [1, 2, 0] rfl)
      intro rec34 ih34 x2_34 σ_34 hf H locs ls hP hS hl
      unfold bd_X0_findMarkings_34 at hf
      refine lv_iload_n hx hb dX0_findMarkings_34 rfl (lv_at hl 2 rfl) ?_
      refine lv_bipush (v := 6) hx hb dX0_findMarkings_35 (by decide) ?_
      refine lv_icmp_ge (tgt := 75) hx hb dX0_findMarkings_37 (by decide) (fun c37 => ?_) (fun c37 => ?_)
      · have hf := iteT c37 hf
        obtain ⟨v5, ev5, hf⟩ := letb_w hf
        refine lv_iinc (v := v5) (lv' := [(1, .int v5), (0, .ref (κ 3)), (2, .int x2_34)]) hx hb dX0_findMarkings_75 hl (k := 1) rfl (by rw [ev5]; rfl) (by decide) rfl (fun ls hl => ?_)
        refine lv_goto (tgt := 17) hx hb dX0_findMarkings_78 (by decide) ?_
        exact ih17 _ _ hf _ _ _ hP hS (lv_sub hl [1, 0] rfl)
      · have hf := iteF c37 hf
        refine lv_aload_n hx hb dX0_findMarkings_40 rfl (lv_at hl 0 rfl) ?_
        refine lv_iload_n hx hb dX0_findMarkings_41 rfl (lv_at hl 2 rfl) ?_
        refine lv_aload_n hx hb dX0_findMarkings_42 rfl (lv_at hl 0 rfl) ?_
        refine g_get (q := 3) (ci := 0) (k := 9) (ref := RX0) (C := RX0) (T := TX0) (N := 11) (index := 29) (v := .ref (κ 12)) S hK hP hiX0 (by decide) rfl rfl (by decide) rfl (by decide +kernel) rfl dX0_findMarkings_43 ?_
        refine lv_iload_n hx hb dX0_findMarkings_46 rfl (lv_at hl 1 rfl) ?_
        obtain ⟨v6, hv6, hf⟩ := obw hf
        refine g_ald (a := 12) (len := 200) S hK hP (by decide) (xC_arr (by decide) rfl) hv6 dX0_findMarkings_47 ?_
        obtain ⟨v7, hq48, hf⟩ := obw hf
        refine g_calli (va_runV (As := [.int x2_34, .int v6]) (rest := []) S (met_X0_canFire l D cI cII κ hκ σ_34 x2_34 v6 v7 hq48) (cwV 2 S.2.2.2.2 gX0_findMarkings_X0_canFire rfl rfl rfl (by decide +kernel) ⟨Nat.le_of_ble_eq_true rfl, Nat.le_of_ble_eq_true rfl⟩) (g_preV (N := 11) (T := TX0) hK hP (Nat.le_refl _) (by decide) rfl rfl) rfl rfl hl.1 rfl (lv_room (Nat.le_of_ble_eq_true rfl)) dX0_findMarkings_48 ⟨Nat.le_of_ble_eq_true rfl, Nat.le_of_ble_eq_true rfl⟩) (Nat.le_refl _) hκ hA hP hS (fun j h1 h2 => absurd h2 (Nat.not_lt.mpr h1)) (fun H locs hP hS => ?_)
        obtain ⟨K69, hK69, hf⟩ := letb_w hf
        have J69 : ∀ (τ_69 : SX), K69 τ_69 = some σ' → ∀ (H : Heap) (locs : List Loc) (ls : Array Slot), va_P D vwCl (gw 31 κ (xC cI cII κ τ_69)) H → va_S (gA 31 κ) s.heap H locs → lv_has ls 3 [(0, .ref (κ 3)), (1, .int x1_17), (2, .int x2_34)] → W p l e ({ frames := 2, cells := 0, slots := 0, locals := 43 } : Room) s m args below meth c H locs 0 0 (MQ below (QV D cI cII 31 κ (xC cI cII κ σ')) args s 0 0 (gA 31 κ)) (F0 m 69 ls []) := by
          intro τ_69 hf H locs ls hP hS hl
          rw [hK69] at hf
          obtain ⟨v8, ev8, hf⟩ := letb_w hf
          refine lv_iinc (v := v8) (lv' := [(2, .int v8), (0, .ref (κ 3)), (1, .int x1_17)]) hx hb dX0_findMarkings_69 hl (k := 2) rfl (by rw [ev8]; rfl) (by decide) rfl (fun ls hl => ?_)
          refine lv_goto (tgt := 34) hx hb dX0_findMarkings_72 (by decide) ?_
          exact ih34 _ _ hf _ _ _ hP hS (lv_sub hl [1, 2, 0] rfl)
        refine lv_if_eq (tgt := 69) hx hb dX0_findMarkings_51 (by decide) (fun c51 => ?_) (fun c51 => ?_)
        · have hf := iteT c51 hf
          exact J69 _ hf _ _ _ hP hS (lv_sub hl [0, 1, 2] rfl)
        · have hf := iteF c51 hf
          refine lv_aload_n hx hb dX0_findMarkings_54 rfl (lv_at hl 0 rfl) ?_
          refine lv_aload_n hx hb dX0_findMarkings_55 rfl (lv_at hl 0 rfl) ?_
          refine lv_iload_n hx hb dX0_findMarkings_56 rfl (lv_at hl 2 rfl) ?_
          refine lv_aload_n hx hb dX0_findMarkings_57 rfl (lv_at hl 0 rfl) ?_
          refine g_get (q := 3) (ci := 0) (k := 9) (ref := RX0) (C := RX0) (T := TX0) (N := 11) (index := 29) (v := .ref (κ 12)) S hK hP hiX0 (by decide) rfl rfl (by decide) rfl (by decide +kernel) rfl dX0_findMarkings_58 ?_
          refine lv_iload_n hx hb dX0_findMarkings_61 rfl (lv_at hl 1 rfl) ?_
          obtain ⟨v9, hv9, hf⟩ := obw hf
          refine g_ald (a := 12) (len := 200) S hK hP (by decide) (xC_arr (by decide) rfl) hv9 dX0_findMarkings_62 ?_
          obtain ⟨v10, hq63, hf⟩ := obw hf
          refine g_calli (va_runV (As := [.int x2_34, .int v9]) (rest := [.ref (κ 3)]) S (met_X0_behind l D cI cII κ hκ σ_34 x2_34 v9 v10 hq63) (cwV 2 S.2.2.2.2 gX0_findMarkings_X0_behind rfl rfl rfl (by decide +kernel) ⟨Nat.le_of_ble_eq_true rfl, Nat.le_of_ble_eq_true rfl⟩) (g_preV (N := 11) (T := TX0) hK hP (Nat.le_refl _) (by decide) rfl rfl) rfl rfl hl.1 rfl (lv_room (Nat.le_of_ble_eq_true rfl)) dX0_findMarkings_63 ⟨Nat.le_of_ble_eq_true rfl, Nat.le_of_ble_eq_true rfl⟩) (Nat.le_refl _) hκ hA hP hS (fun j h1 h2 => absurd h2 (Nat.not_lt.mpr h1)) (fun H locs hP hS => ?_)
          obtain ⟨σ11, hq66, hf⟩ := obw hf
          refine g_callv (va_runV (As := [.int v10]) (rest := []) S (met_X0_keepNew l D cI cII κ hκ σ_34 v10 σ11 hq66) (cwV 1 S.2.2.2.2 gX0_findMarkings_X0_keepNew rfl rfl rfl (by decide +kernel) ⟨Nat.le_of_ble_eq_true rfl, Nat.le_of_ble_eq_true rfl⟩) (g_preV (N := 11) (T := TX0) hK hP (Nat.le_refl _) (by decide) rfl rfl) rfl rfl hl.1 rfl (lv_room (Nat.le_of_ble_eq_true rfl)) dX0_findMarkings_66 ⟨Nat.le_of_ble_eq_true rfl, Nat.le_of_ble_eq_true rfl⟩) (Nat.le_refl _) hκ hA hP hS (fun j h1 h2 => absurd h2 (Nat.not_lt.mpr h1)) (fun H locs hP hS => ?_)
          exact J69 _ hf _ _ _ hP hS (lv_sub hl [0, 1, 2] rfl)

set_option maxRecDepth 100000 in
set_option maxHeartbeats 4000000 in
theorem met_X0_markingsFound (l : Launch) (D : va_G) (cI cII : ClassId) (κ : Nat → Nat) (hκ : Inj 31 κ) (σ : SX)  (r : Int32) (σ' : SX) (hf : fn_X0_markingsFound σ  = some (r, σ')) : Met l yX0_markingsFound wsX0_markingsFound ({ frames := 3, cells := 0, slots := 0, locals := 65 } : Room) (va_Pc [.ref (κ 3)] (xP D cI cII κ σ)) (QI D cI cII 31 κ (xC cI cII κ σ') r) 0 0 (gA 31 κ) := by
  refine g_enter (cc := cX0_markingsFound) (maxL := 1) (ret := (some .int)) (by decide) rfl (Nat.le_of_ble_eq_true rfl) ?_
  intro p e s m args below meth c ls S hr hlk _ hB hl
  have S : CallFix p m c cX0_markingsFound 1 s args wsX0_markingsFound RX0 := S
  obtain ⟨hP, hK⟩ := hB
  have hl : lv_has ls 1 [(0, .ref (κ 3))] := hl
  have hS : va_S (gA 31 κ) s.heap s.heap [] := va_S.rf
  have hA : ∀ k, k < 31 → gA 31 κ (κ k) := gA_in
  obtain ⟨hx, hb, hml, hown, hts⟩ := id S
  have hiX0 : ∀ w ∈ u_ws RX0 TX0 11, w ∈ wsX0_markingsFound := by decide +kernel
  unfold fn_X0_markingsFound at hf
  refine lv_aload_n hx hb dX0_markingsFound_0 rfl (lv_at hl 0 rfl) ?_
  refine g_get (q := 3) (ci := 0) (k := 10) (ref := RX0) (C := RX0) (T := TX0) (N := 11) (index := 47) (v := .int ((σ.1 7))) S hK hP hiX0 (by decide) rfl rfl (by decide) rfl (by decide +kernel) rfl dX0_markingsFound_1 ?_
  obtain ⟨K11, hK11, hf⟩ := letb_w hf
  have J11 : ∀ (τ_11 : SX), K11 τ_11 = some (r, σ') → ∀ (H : Heap) (locs : List Loc) (ls : Array Slot), va_P D vwCl (gw 31 κ (xC cI cII κ τ_11)) H → va_S (gA 31 κ) s.heap H locs → lv_has ls 1 [(0, .ref (κ 3))] → W p l e ({ frames := 3, cells := 0, slots := 0, locals := 65 } : Room) s m args below meth c H locs 0 0 (MQ below (QI D cI cII 31 κ (xC cI cII κ σ') r) args s 0 0 (gA 31 κ)) (F0 m 11 ls []) := by
    intro τ_11 hf H locs ls hP hS hl
    rw [hK11] at hf
    refine lv_aload_n hx hb dX0_markingsFound_11 rfl (lv_at hl 0 rfl) ?_
    refine g_get (q := 3) (ci := 0) (k := 10) (ref := RX0) (C := RX0) (T := TX0) (N := 11) (index := 47) (v := .int ((τ_11.1 7))) S hK hP hiX0 (by decide) rfl rfl (by decide) rfl (by decide +kernel) rfl dX0_markingsFound_12 ?_
    obtain ⟨h8, h9⟩ := Prod.mk.inj (Option.some.inj hf)
    subst h9
    exact g_iret S hr hlk hK hP hS h8 dX0_markingsFound_15
  refine lv_if_ne (tgt := 11) hx hb dX0_markingsFound_4 (by decide) (fun c4 => ?_) (fun c4 => ?_)
  · have hf := iteT c4 hf
    exact J11 _ hf _ _ _ hP hS (lv_sub hl [0] rfl)
  · have hf := iteN c4 hf
    refine lv_aload_n hx hb dX0_markingsFound_7 rfl (lv_at hl 0 rfl) ?_
    obtain ⟨σ1, hq8, hf⟩ := obw hf
    refine g_callv (va_runV (As := []) (rest := []) S (met_X0_findMarkings l D cI cII κ hκ σ σ1 hq8) (cwV 0 S.2.2.2.2 gX0_markingsFound_X0_findMarkings rfl rfl rfl (by decide +kernel) ⟨Nat.le_of_ble_eq_true rfl, Nat.le_of_ble_eq_true rfl⟩) (g_preV (N := 11) (T := TX0) hK hP (Nat.le_refl _) (by decide) rfl rfl) rfl rfl hl.1 rfl (lv_room (Nat.le_of_ble_eq_true rfl)) dX0_markingsFound_8 ⟨Nat.le_of_ble_eq_true rfl, Nat.le_of_ble_eq_true rfl⟩) (Nat.le_refl _) hκ hA hP hS (fun j h1 h2 => absurd h2 (Nat.not_lt.mpr h1)) (fun H locs hP hS => ?_)
    exact J11 _ hf _ _ _ hP hS (lv_sub hl [0] rfl)

set_option maxRecDepth 100000 in
set_option maxHeartbeats 4000000 in
theorem met_X0_isMatched (l : Launch) (D : va_G) (cI cII : ClassId) (κ : Nat → Nat) (hκ : Inj 31 κ) (σ : SX) (p1 : Int32) (p2 : Int32) (r : Int32) (hf : fn_X0_isMatched σ p1 p2 = some r) : Met l yX0_isMatched wsX0_isMatched ({ frames := 2, cells := 0, slots := 0, locals := 44 } : Room) (va_Pc [.ref (κ 3), .int p1, .int p2] (xP D cI cII κ σ)) (QI D cI cII 31 κ (xC cI cII κ σ) r) 0 0 (gA 31 κ) := by
  refine g_enter (cc := cX0_isMatched) (maxL := 6) (ret := (some .boolean)) (by decide) rfl (Nat.le_of_ble_eq_true rfl) ?_
  intro p e s m args below meth c ls S hr hlk _ hB hl
  have S : CallFix p m c cX0_isMatched 6 s args wsX0_isMatched RX0 := S
  obtain ⟨hP, hK⟩ := hB
  have hl : lv_has ls 6 [(0, .ref (κ 3)), (1, .int p1), (2, .int p2)] := hl
  have hS : va_S (gA 31 κ) s.heap s.heap [] := va_S.rf
  have hA : ∀ k, k < 31 → gA 31 κ (κ k) := gA_in
  obtain ⟨hx, hb, hml, hown, hts⟩ := id S
  have hiX0 : ∀ w ∈ u_ws RX0 TX0 11, w ∈ wsX0_isMatched := by decide +kernel
  unfold fn_X0_isMatched at hf
  refine lv_aload_n hx hb dX0_isMatched_0 rfl (lv_at hl 0 rfl) ?_
  refine lv_iload_n hx hb dX0_isMatched_1 rfl (lv_at hl 1 rfl) ?_
  obtain ⟨v1, hq2, hf⟩ := obw hf
  refine g_calli (va_runV (As := [.int p1]) (rest := []) S (met_X0_placesWith l D cI cII κ hκ σ p1 v1 hq2) (cwV 1 S.2.2.2.2 gX0_isMatched_X0_placesWith rfl rfl rfl (by decide +kernel) ⟨Nat.le_of_ble_eq_true rfl, Nat.le_of_ble_eq_true rfl⟩) (g_preV (N := 11) (T := TX0) hK hP (Nat.le_refl _) (by decide) rfl rfl) rfl rfl hl.1 rfl (lv_room (Nat.le_of_ble_eq_true rfl)) dX0_isMatched_2 ⟨Nat.le_of_ble_eq_true rfl, Nat.le_of_ble_eq_true rfl⟩) (Nat.le_refl _) hκ hA hP hS (fun j h1 h2 => absurd h2 (Nat.not_lt.mpr h1)) (fun H locs hP hS => ?_)
  obtain ⟨v2, ev2, hf⟩ := letb_w hf
  refine lv_nmi ev2 ?_
  refine lv_istore_n (lv' := [(3, .int v2), (0, .ref (κ 3)), (1, .int p1), (2, .int p2)]) hx hb dX0_isMatched_5 rfl hl (by decide) rfl (fun ls hl => ?_)
  refine lv_iconst (v := 0) hx hb dX0_isMatched_6 (by decide) ?_
  obtain ⟨v3, ev3, hf⟩ := letb_w hf
  refine lv_nmi ev3 ?_
  refine lv_istore (lv' := [(4, .int v3), (3, .int v2), (0, .ref (κ 3)), (1, .int p1), (2, .int p2)]) hx hb dX0_isMatched_7 hl (by decide) rfl (fun ls hl => ?_)
  refine loopF_w (P := fun (g : Int32 → Option (Int32)) => ∀ (x4_9 : Int32), g x4_9 = some r → ∀ (H : Heap) (locs : List Loc) (ls : Array Slot), va_P D vwCl (gw 31 κ (xC cI cII κ σ)) H → va_S (gA 31 κ) s.heap H locs → lv_has ls 6 [(0, .ref (κ 3)), (1, .int p1), (2, .int p2), (3, .int v2), (4, .int x4_9)] → W p l e ({ frames := 2, cells := 0, slots := 0, locals := 44 } : Room) s m args below meth c H locs 0 0 (MQ below (QI D cI cII 31 κ (xC cI cII κ σ) r) args s 0 0 (gA 31 κ)) (F0 m 9 ls [])) (fun _ h => by simp at h) ?_ FU _ hf _ _ _ hP hS (lv_sub hl [2, 3, 4, 1, 0] rfl)
  intro rec9 ih9 x4_9 hf H locs ls hP hS hl
  unfold bd_X0_isMatched_9 at hf
  refine lv_iload hx hb dX0_isMatched_9 (lv_at hl 4 rfl) ?_
  refine lv_bipush (v := 6) hx hb dX0_isMatched_11 (by decide) ?_
  refine lv_icmp_ge (tgt := 57) hx hb dX0_isMatched_13 (by decide) (fun c13 => ?_) (fun c13 => ?_)
  · have hf := iteT c13 hf
    refine lv_iconst (v := 0) hx hb dX0_isMatched_57 (by decide) ?_
    obtain ⟨v4, ev4, hf⟩ := letb_w hf
    refine lv_nmi ev4 ?_
    refine lv_istore (lv' := [(4, .int v4), (0, .ref (κ 3)), (1, .int p1), (2, .int p2), (3, .int v2)]) hx hb dX0_isMatched_58 hl (by decide) rfl (fun ls hl => ?_)
    refine loopF_w (P := fun (g : Int32 → Option (Int32)) => ∀ (x4_60 : Int32), g x4_60 = some r → ∀ (H : Heap) (locs : List Loc) (ls : Array Slot), va_P D vwCl (gw 31 κ (xC cI cII κ σ)) H → va_S (gA 31 κ) s.heap H locs → lv_has ls 6 [(0, .ref (κ 3)), (1, .int p1), (2, .int p2), (3, .int v2), (4, .int x4_60)] → W p l e ({ frames := 2, cells := 0, slots := 0, locals := 44 } : Room) s m args below meth c H locs 0 0 (MQ below (QI D cI cII 31 κ (xC cI cII κ σ) r) args s 0 0 (gA 31 κ)) (F0 m 60 ls [])) (fun _ h => by simp at h) ?_ FU _ hf _ _ _ hP hS (lv_sub hl [1, 2, 3, 4, 0] rfl)
    intro rec60 ih60 x4_60 hf H locs ls hP hS hl
    unfold bd_X0_isMatched_60 at hf
    refine lv_iload hx hb dX0_isMatched_60 (lv_at hl 4 rfl) ?_
    refine lv_iload_n hx hb dX0_isMatched_62 rfl (lv_at hl 1 rfl) ?_
    refine lv_icmp_ge (tgt := 93) hx hb dX0_isMatched_63 (by decide) (fun c63 => ?_) (fun c63 => ?_)
    · have hf := iteT c63 hf
      refine lv_iconst (v := 1) hx hb dX0_isMatched_93 (by decide) ?_
      exact g_zret S hr hlk hK hP hS hf dX0_isMatched_94
    · have hf := iteF c63 hf
      refine lv_iload_n hx hb dX0_isMatched_66 rfl (lv_at hl 2 rfl) ?_
      refine lv_iload hx hb dX0_isMatched_67 (lv_at hl 4 rfl) ?_
      obtain ⟨v5, hq69, hf⟩ := obw hf
      refine g_calli (va_runSN (As := [.int p2, .int x4_60]) (rest := []) S (met_X3_has l D cI cII κ hκ σ p2 x4_60 v5 hq69) ⟨va_cnB 2 S.2.2.2.2 gX0_isMatched_X3_has_n75 rfl rfl rfl hK.2.2.2.2.2.2.2.2.2.2.2 (S.2.2.2.2 (.initialized RX3) (by decide +kernel)) (by decide +kernel) ⟨Nat.le_of_ble_eq_true rfl, Nat.le_of_ble_eq_true rfl⟩, S.2.2.2.2 (.static yX3_has) (by decide +kernel), trivial⟩ (g_preS hK hP (Nat.le_refl _)) rfl rfl hl.1 rfl (lv_room (Nat.le_of_ble_eq_true rfl)) dX0_isMatched_69 ⟨Nat.le_of_ble_eq_true rfl, Nat.le_of_ble_eq_true rfl⟩) (Nat.le_refl _) hκ hA hP hS (fun j h1 h2 => absurd h2 (Nat.not_lt.mpr h1)) (fun H locs hP hS => ?_)
      obtain ⟨K87, hK87, hf⟩ := letb_w hf
      have J87 : ∀ (_u : Unit), K87 _u = some r → ∀ (H : Heap) (locs : List Loc) (ls : Array Slot), va_P D vwCl (gw 31 κ (xC cI cII κ σ)) H → va_S (gA 31 κ) s.heap H locs → lv_has ls 6 [(0, .ref (κ 3)), (1, .int p1), (2, .int p2), (3, .int v2), (4, .int x4_60)] → W p l e ({ frames := 2, cells := 0, slots := 0, locals := 44 } : Room) s m args below meth c H locs 0 0 (MQ below (QI D cI cII 31 κ (xC cI cII κ σ) r) args s 0 0 (gA 31 κ)) (F0 m 87 ls []) := by
        intro _u hf H locs ls hP hS hl
        rw [hK87] at hf
        obtain ⟨v6, ev6, hf⟩ := letb_w hf
        refine lv_iinc (v := v6) (lv' := [(4, .int v6), (0, .ref (κ 3)), (1, .int p1), (2, .int p2), (3, .int v2)]) hx hb dX0_isMatched_87 hl (k := 4) rfl (by rw [ev6]; rfl) (by decide) rfl (fun ls hl => ?_)
        refine lv_goto (tgt := 60) hx hb dX0_isMatched_90 (by decide) ?_
        exact ih60 _ hf _ _ _ hP hS (lv_sub hl [1, 2, 3, 4, 0] rfl)
      refine lv_if_eq (tgt := 87) hx hb dX0_isMatched_72 (by decide) (fun c72 => ?_) (fun c72 => ?_)
      · have hf := iteT c72 hf
        exact J87 _ hf _ _ _ hP hS (lv_sub hl [0, 1, 2, 3, 4] rfl)
      · have hf := iteF c72 hf
        refine lv_aload_n hx hb dX0_isMatched_75 rfl (lv_at hl 0 rfl) ?_
        refine lv_iload hx hb dX0_isMatched_76 (lv_at hl 4 rfl) ?_
        obtain ⟨v7, hq78, hf⟩ := obw hf
        refine g_calli (va_runV (As := [.int x4_60]) (rest := []) S (met_X0_placesWith l D cI cII κ hκ σ x4_60 v7 hq78) (cwV 1 S.2.2.2.2 gX0_isMatched_X0_placesWith rfl rfl rfl (by decide +kernel) ⟨Nat.le_of_ble_eq_true rfl, Nat.le_of_ble_eq_true rfl⟩) (g_preV (N := 11) (T := TX0) hK hP (Nat.le_refl _) (by decide) rfl rfl) rfl rfl hl.1 rfl (lv_room (Nat.le_of_ble_eq_true rfl)) dX0_isMatched_78 ⟨Nat.le_of_ble_eq_true rfl, Nat.le_of_ble_eq_true rfl⟩) (Nat.le_refl _) hκ hA hP hS (fun j h1 h2 => absurd h2 (Nat.not_lt.mpr h1)) (fun H locs hP hS => ?_)
        refine lv_iload_n hx hb dX0_isMatched_81 rfl (lv_at hl 3 rfl) ?_
        refine lv_icmp_ne (tgt := 87) hx hb dX0_isMatched_82 (by decide) (fun c82 => ?_) (fun c82 => ?_)
        · have hf := iteT c82 hf
          exact J87 _ hf _ _ _ hP hS (lv_sub hl [0, 1, 2, 3, 4] rfl)
        · have hf := iteN c82 hf
          refine lv_iconst (v := 0) hx hb dX0_isMatched_85 (by decide) ?_
          exact g_zret S hr hlk hK hP hS hf dX0_isMatched_86
  · have hf := iteF c13 hf
    refine lv_aload_n hx hb dX0_isMatched_16 rfl (lv_at hl 0 rfl) ?_
    refine g_get (q := 3) (ci := 0) (k := 0) (ref := RX0) (C := RX0) (T := TX0) (N := 11) (index := 9) (v := .ref (κ 1)) S hK hP hiX0 (by decide) rfl rfl (by decide) rfl (by decide +kernel) rfl dX0_isMatched_17 ?_
    refine lv_iload_n hx hb dX0_isMatched_20 rfl (lv_at hl 1 rfl) ?_
    refine lv_iload hx hb dX0_isMatched_21 (lv_at hl 4 rfl) ?_
    obtain ⟨v8, hq23, hf⟩ := obw hf
    refine g_calli (va_runV (As := [.int p1, .int x4_9]) (rest := []) S (met_X2_end l D cI cII κ hκ σ p1 x4_9 v8 hq23) (cwV 2 S.2.2.2.2 gX0_isMatched_X2_end rfl rfl rfl (by decide +kernel) ⟨Nat.le_of_ble_eq_true rfl, Nat.le_of_ble_eq_true rfl⟩) (g_preV (N := 5) (T := TX2) hK hP (Nat.le_refl _) (by decide) rfl rfl) rfl rfl hl.1 rfl (lv_room (Nat.le_of_ble_eq_true rfl)) dX0_isMatched_23 ⟨Nat.le_of_ble_eq_true rfl, Nat.le_of_ble_eq_true rfl⟩) (Nat.le_refl _) hκ hA hP hS (fun j h1 h2 => absurd h2 (Nat.not_lt.mpr h1)) (fun H locs hP hS => ?_)
    refine lv_iconst (v := -1) hx hb dX0_isMatched_26 (by decide) ?_
    obtain ⟨K35, hK35, hf⟩ := letb_w hf
    have J35 : ∀ (z0_35 : Int32), K35 z0_35 = some r → ∀ (H : Heap) (locs : List Loc) (ls : Array Slot), va_P D vwCl (gw 31 κ (xC cI cII κ σ)) H → va_S (gA 31 κ) s.heap H locs → lv_has ls 6 [(0, .ref (κ 3)), (1, .int p1), (2, .int p2), (3, .int v2), (4, .int x4_9)] → W p l e ({ frames := 2, cells := 0, slots := 0, locals := 44 } : Room) s m args below meth c H locs 0 0 (MQ below (QI D cI cII 31 κ (xC cI cII κ σ) r) args s 0 0 (gA 31 κ)) (F0 m 35 ls [.int z0_35]) := by
      intro z0_35 hf H locs ls hP hS hl
      rw [hK35] at hf
      obtain ⟨v9, ev9, hf⟩ := letb_w hf
      refine lv_nmi ev9 ?_
      refine lv_istore (lv' := [(5, .int v9), (0, .ref (κ 3)), (1, .int p1), (2, .int p2), (3, .int v2), (4, .int x4_9)]) hx hb dX0_isMatched_35 hl (by decide) rfl (fun ls hl => ?_)
      refine lv_aload_n hx hb dX0_isMatched_37 rfl (lv_at hl 1 rfl) ?_
      refine lv_iload hx hb dX0_isMatched_38 (lv_at hl 5 rfl) ?_
      refine lv_iload_n hx hb dX0_isMatched_40 rfl (lv_at hl 4 rfl) ?_
      obtain ⟨v10, hq41, hf⟩ := obw hf
      refine g_calli (va_runV (As := [.int x4_9, .int v2]) (rest := []) S (met_X0_canFire l D cI cII κ hκ σ x4_9 v2 v10 hq41) (cwV 2 S.2.2.2.2 gX0_isMatched_X0_canFire rfl rfl rfl (by decide +kernel) ⟨Nat.le_of_ble_eq_true rfl, Nat.le_of_ble_eq_true rfl⟩) (g_preV (N := 11) (T := TX0) hK hP (Nat.le_refl _) (by decide) rfl rfl) rfl rfl hl.1 rfl (lv_room (Nat.le_of_ble_eq_true rfl)) dX0_isMatched_41 ⟨Nat.le_of_ble_eq_true rfl, Nat.le_of_ble_eq_true rfl⟩) (Nat.le_refl _) hκ hA hP hS (fun j h1 h2 => absurd h2 (Nat.not_lt.mpr h1)) (fun H locs hP hS => ?_)
      refine lv_iload hx hb dX0_isMatched_44 (lv_at hl 0 rfl) ?_
      refine lv_icmp_eq (tgt := 51) hx hb dX0_isMatched_46 (by decide) (fun c46 => ?_) (fun c46 => ?_)
      · have hf := iteT c46 hf
        obtain ⟨v11, ev11, hf⟩ := letb_w hf
        refine lv_iinc (v := v11) (lv' := [(4, .int v11), (5, .int v9), (0, .ref (κ 3)), (1, .int p1), (2, .int p2), (3, .int v2)]) hx hb dX0_isMatched_51 hl (k := 5) rfl (by rw [ev11]; rfl) (by decide) rfl (fun ls hl => ?_)
        refine lv_goto (tgt := 9) hx hb dX0_isMatched_54 (by decide) ?_
        exact ih9 _ hf _ _ _ hP hS (lv_sub hl [2, 3, 4, 5, 0] rfl)
      · have hf := iteF c46 hf
        refine lv_iconst (v := 0) hx hb dX0_isMatched_49 (by decide) ?_
        exact g_zret S hr hlk hK hP hS hf dX0_isMatched_50
    refine lv_icmp_eq (tgt := 34) hx hb dX0_isMatched_27 (by decide) (fun c27 => ?_) (fun c27 => ?_)
    · have hf := iteT c27 hf
      refine lv_iconst (v := 0) hx hb dX0_isMatched_34 (by decide) ?_
      exact J35 _ hf _ _ _ hP hS (lv_sub hl [0, 1, 2, 3, 4] rfl)
    · have hf := iteF c27 hf
      refine lv_iconst (v := 1) hx hb dX0_isMatched_30 (by decide) ?_
      refine lv_goto (tgt := 35) hx hb dX0_isMatched_31 (by decide) ?_
      exact J35 _ hf _ _ _ hP hS (lv_sub hl [0, 1, 2, 3, 4] rfl)

set_option maxRecDepth 100000 in
set_option maxHeartbeats 4000000 in
theorem met_X0_behavesLikeSystem (l : Launch) (D : va_G) (cI cII : ClassId) (κ : Nat → Nat) (hκ : Inj 31 κ) (σ : SX)  (r : Int32) (hf : fn_X0_behavesLikeSystem σ  = some r) : Met l yX0_behavesLikeSystem wsX0_behavesLikeSystem ({ frames := 3, cells := 0, slots := 0, locals := 69 } : Room) (va_Pc [.ref (κ 3)] (xP D cI cII κ σ)) (QI D cI cII 31 κ (xC cI cII κ σ) r) 0 0 (gA 31 κ) := by
  refine g_enter (cc := cX0_behavesLikeSystem) (maxL := 3) (ret := (some .boolean)) (by decide) rfl (Nat.le_of_ble_eq_true rfl) ?_
  intro p e s m args below meth c ls S hr hlk _ hB hl
  have S : CallFix p m c cX0_behavesLikeSystem 3 s args wsX0_behavesLikeSystem RX0 := S
  obtain ⟨hP, hK⟩ := hB
  have hl : lv_has ls 3 [(0, .ref (κ 3))] := hl
  have hS : va_S (gA 31 κ) s.heap s.heap [] := va_S.rf
  have hA : ∀ k, k < 31 → gA 31 κ (κ k) := gA_in
  obtain ⟨hx, hb, hml, hown, hts⟩ := id S
  have hiX0 : ∀ w ∈ u_ws RX0 TX0 11, w ∈ wsX0_behavesLikeSystem := by decide +kernel
  have hiX2 : ∀ w ∈ u_ws RX2 TX2 5, w ∈ wsX0_behavesLikeSystem := by decide +kernel
  unfold fn_X0_behavesLikeSystem at hf
  refine lv_aload_n hx hb dX0_behavesLikeSystem_0 rfl (lv_at hl 0 rfl) ?_
  refine g_get (q := 3) (ci := 0) (k := 0) (ref := RX0) (C := RX0) (T := TX0) (N := 11) (index := 9) (v := .ref (κ 1)) S hK hP hiX0 (by decide) rfl rfl (by decide) rfl (by decide +kernel) rfl dX0_behavesLikeSystem_1 ?_
  obtain ⟨v1, hq4, hf⟩ := obw hf
  refine g_calli (va_runV (As := []) (rest := []) S (met_X2_reachedStates l D cI cII κ hκ σ v1 hq4) (cwV 0 S.2.2.2.2 gX0_behavesLikeSystem_X2_reachedStates rfl rfl rfl (by decide +kernel) ⟨Nat.le_of_ble_eq_true rfl, Nat.le_of_ble_eq_true rfl⟩) (g_preV (N := 5) (T := TX2) hK hP (Nat.le_refl _) (by decide) rfl rfl) rfl rfl hl.1 rfl (lv_room (Nat.le_of_ble_eq_true rfl)) dX0_behavesLikeSystem_4 ⟨Nat.le_of_ble_eq_true rfl, Nat.le_of_ble_eq_true rfl⟩) (Nat.le_refl _) hκ hA hP hS (fun j h1 h2 => absurd h2 (Nat.not_lt.mpr h1)) (fun H locs hP hS => ?_)
  obtain ⟨v2, ev2, hf⟩ := letb_w hf
  refine lv_nmi ev2 ?_
  refine lv_istore_n (lv' := [(1, .int v2), (0, .ref (κ 3))]) hx hb dX0_behavesLikeSystem_7 rfl hl (by decide) rfl (fun ls hl => ?_)
  refine lv_iconst (v := 0) hx hb dX0_behavesLikeSystem_8 (by decide) ?_
  obtain ⟨v3, ev3, hf⟩ := letb_w hf
  refine lv_nmi ev3 ?_
  refine lv_istore_n (lv' := [(2, .int v3), (1, .int v2), (0, .ref (κ 3))]) hx hb dX0_behavesLikeSystem_9 rfl hl (by decide) rfl (fun ls hl => ?_)
  refine loopF_w (P := fun (g : Int32 → Option (Int32)) => ∀ (x2_10 : Int32), g x2_10 = some r → ∀ (H : Heap) (locs : List Loc) (ls : Array Slot), va_P D vwCl (gw 31 κ (xC cI cII κ σ)) H → va_S (gA 31 κ) s.heap H locs → lv_has ls 3 [(0, .ref (κ 3)), (1, .int v2), (2, .int x2_10)] → W p l e ({ frames := 3, cells := 0, slots := 0, locals := 69 } : Room) s m args below meth c H locs 0 0 (MQ below (QI D cI cII 31 κ (xC cI cII κ σ) r) args s 0 0 (gA 31 κ)) (F0 m 10 ls [])) (fun _ h => by simp at h) ?_ FU _ hf _ _ _ hP hS (lv_sub hl [2, 1, 0] rfl)
  intro rec10 ih10 x2_10 hf H locs ls hP hS hl
  unfold bd_X0_behavesLikeSystem_10 at hf
  refine lv_iload_n hx hb dX0_behavesLikeSystem_10 rfl (lv_at hl 2 rfl) ?_
  refine lv_aload_n hx hb dX0_behavesLikeSystem_11 rfl (lv_at hl 0 rfl) ?_
  refine g_get (q := 3) (ci := 0) (k := 0) (ref := RX0) (C := RX0) (T := TX0) (N := 11) (index := 9) (v := .ref (κ 1)) S hK hP hiX0 (by decide) rfl rfl (by decide) rfl (by decide +kernel) rfl dX0_behavesLikeSystem_12 ?_
  refine g_getN (q := 1) (ci := 2) (k := 0) (ref := RX2) (C := RX2) (T := TX2) (N := 5) (index := 98) (v := .int ((σ.1 0))) S hK hP hiX2 (by decide) rfl rfl (by decide) rfl hK.2.2.2.1 rfl dX0_behavesLikeSystem_15 ?_
  refine lv_icmp_ge (tgt := 46) hx hb dX0_behavesLikeSystem_18 (by decide) (fun c18 => ?_) (fun c18 => ?_)
  · have hf := iteT c18 hf
    refine lv_iconst (v := 1) hx hb dX0_behavesLikeSystem_46 (by decide) ?_
    exact g_zret S hr hlk hK hP hS hf dX0_behavesLikeSystem_47
  · have hf := iteF c18 hf
    refine lv_iload_n hx hb dX0_behavesLikeSystem_21 rfl (lv_at hl 1 rfl) ?_
    refine lv_iload_n hx hb dX0_behavesLikeSystem_22 rfl (lv_at hl 2 rfl) ?_
    obtain ⟨v4, hq23, hf⟩ := obw hf
    refine g_calli (va_runSN (As := [.int v2, .int x2_10]) (rest := []) S (met_X3_has l D cI cII κ hκ σ v2 x2_10 v4 hq23) ⟨va_cnB 2 S.2.2.2.2 gX0_behavesLikeSystem_X3_has_n75 rfl rfl rfl hK.2.2.2.2.2.2.2.2.2.2.2 (S.2.2.2.2 (.initialized RX3) (by decide +kernel)) (by decide +kernel) ⟨Nat.le_of_ble_eq_true rfl, Nat.le_of_ble_eq_true rfl⟩, S.2.2.2.2 (.static yX3_has) (by decide +kernel), trivial⟩ (g_preS hK hP (Nat.le_refl _)) rfl rfl hl.1 rfl (lv_room (Nat.le_of_ble_eq_true rfl)) dX0_behavesLikeSystem_23 ⟨Nat.le_of_ble_eq_true rfl, Nat.le_of_ble_eq_true rfl⟩) (Nat.le_refl _) hκ hA hP hS (fun j h1 h2 => absurd h2 (Nat.not_lt.mpr h1)) (fun H locs hP hS => ?_)
    obtain ⟨K40, hK40, hf⟩ := letb_w hf
    have J40 : ∀ (_u : Unit), K40 _u = some r → ∀ (H : Heap) (locs : List Loc) (ls : Array Slot), va_P D vwCl (gw 31 κ (xC cI cII κ σ)) H → va_S (gA 31 κ) s.heap H locs → lv_has ls 3 [(0, .ref (κ 3)), (1, .int v2), (2, .int x2_10)] → W p l e ({ frames := 3, cells := 0, slots := 0, locals := 69 } : Room) s m args below meth c H locs 0 0 (MQ below (QI D cI cII 31 κ (xC cI cII κ σ) r) args s 0 0 (gA 31 κ)) (F0 m 40 ls []) := by
      intro _u hf H locs ls hP hS hl
      rw [hK40] at hf
      obtain ⟨v5, ev5, hf⟩ := letb_w hf
      refine lv_iinc (v := v5) (lv' := [(2, .int v5), (0, .ref (κ 3)), (1, .int v2)]) hx hb dX0_behavesLikeSystem_40 hl (k := 2) rfl (by rw [ev5]; rfl) (by decide) rfl (fun ls hl => ?_)
      refine lv_goto (tgt := 10) hx hb dX0_behavesLikeSystem_43 (by decide) ?_
      exact ih10 _ hf _ _ _ hP hS (lv_sub hl [1, 2, 0] rfl)
    refine lv_if_eq (tgt := 40) hx hb dX0_behavesLikeSystem_26 (by decide) (fun c26 => ?_) (fun c26 => ?_)
    · have hf := iteT c26 hf
      exact J40 _ hf _ _ _ hP hS (lv_sub hl [0, 1, 2] rfl)
    · have hf := iteF c26 hf
      refine lv_aload_n hx hb dX0_behavesLikeSystem_29 rfl (lv_at hl 0 rfl) ?_
      refine lv_iload_n hx hb dX0_behavesLikeSystem_30 rfl (lv_at hl 2 rfl) ?_
      refine lv_iload_n hx hb dX0_behavesLikeSystem_31 rfl (lv_at hl 1 rfl) ?_
      obtain ⟨v6, hq32, hf⟩ := obw hf
      refine g_calli (va_runV (As := [.int x2_10, .int v2]) (rest := []) S (met_X0_isMatched l D cI cII κ hκ σ x2_10 v2 v6 hq32) (cwV 2 S.2.2.2.2 gX0_behavesLikeSystem_X0_isMatched rfl rfl rfl (by decide +kernel) ⟨Nat.le_of_ble_eq_true rfl, Nat.le_of_ble_eq_true rfl⟩) (g_preV (N := 11) (T := TX0) hK hP (Nat.le_refl _) (by decide) rfl rfl) rfl rfl hl.1 rfl (lv_room (Nat.le_of_ble_eq_true rfl)) dX0_behavesLikeSystem_32 ⟨Nat.le_of_ble_eq_true rfl, Nat.le_of_ble_eq_true rfl⟩) (Nat.le_refl _) hκ hA hP hS (fun j h1 h2 => absurd h2 (Nat.not_lt.mpr h1)) (fun H locs hP hS => ?_)
      refine lv_if_ne (tgt := 40) hx hb dX0_behavesLikeSystem_35 (by decide) (fun c35 => ?_) (fun c35 => ?_)
      · have hf := iteT c35 hf
        exact J40 _ hf _ _ _ hP hS (lv_sub hl [0, 1, 2] rfl)
      · have hf := iteN c35 hf
        refine lv_iconst (v := 0) hx hb dX0_behavesLikeSystem_38 (by decide) ?_
        exact g_zret S hr hlk hK hP hS hf dX0_behavesLikeSystem_39
