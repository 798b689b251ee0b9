/-! by wip/p34/gen.py: walks: the machine computes the pure functions -/
set_option maxRecDepth 100000 in
set_option maxHeartbeats 4000000 in
theorem met_X1_isOne (l : Launch) (D : va_G) (cI cII : ClassId) (κ : Nat → Nat) (hκ : Inj 31 κ) (σ : SX) (p1 : Int32) (r : Int32) (hf : fn_X1_isOne σ p1 = some r) : Met l yX1_isOne wsX1_isOne ({ frames := 2, cells := 0, slots := 0, locals := 47 } : Room) (va_Pc [.ref (κ 2), .int p1] (xP D cI cII κ σ)) (QI D cI cII 31 κ (xC cI cII κ σ) r) 0 0 (gA 31 κ) := by
  refine g_enter (cc := cX1_isOne) (maxL := 2) (ret := (some .boolean)) (by decide) rfl (Nat.le_of_ble_eq_true rfl) ?_
  intro p e s m args below meth c ls S hr hlk _ hB hl
  have S : CallFix p m c cX1_isOne 2 s args wsX1_isOne RX1 := S
  obtain ⟨hP, hK⟩ := hB
  have hl : lv_has ls 2 [(0, .ref (κ 2)), (1, .int p1)] := hl
  have hS : va_S (gA 31 κ) s.heap s.heap [] := va_S.rf
  have hA : ∀ k, k < 31 → gA 31 κ (κ k) := gA_in
  obtain ⟨hx, hb, hml, hown, hts⟩ := id S
  have hiX1 : ∀ w ∈ u_ws RX1 TX1 4, w ∈ wsX1_isOne := by decide +kernel
  unfold fn_X1_isOne at hf
  refine lv_iload_n hx hb dX1_isOne_0 rfl (lv_at hl 1 rfl) ?_
  obtain ⟨K31, hK31, hf⟩ := letb_w hf
  have J31 : ∀ (_u : Unit), K31 _u = some r → ∀ (H : Heap) (locs : List Loc) (ls : Array Slot), va_P D vwCl (gw 31 κ (xC cI cII κ σ)) H → va_S (gA 31 κ) s.heap H locs → lv_has ls 2 [] → W p l e ({ frames := 2, cells := 0, slots := 0, locals := 47 } : Room) s m args below meth c H locs 0 0 (MQ below (QI D cI cII 31 κ (xC cI cII κ σ) r) args s 0 0 (gA 31 κ)) (F0 m 31 ls []) := by
    intro _u hf H locs ls hP hS hl
    rw [hK31] at hf
    refine lv_iconst (v := 0) hx hb dX1_isOne_31 (by decide) ?_
    exact g_zret S hr hlk hK hP hS hf dX1_isOne_32
  refine lv_if_eq (tgt := 31) hx hb dX1_isOne_1 (by decide) (fun c1 => ?_) (fun c1 => ?_)
  · have hf := iteT c1 hf
    exact J31 _ hf _ _ _ hP hS (lv_sub hl [] rfl)
  · have hf := iteF c1 hf
    refine lv_iload_n hx hb dX1_isOne_4 rfl (lv_at hl 1 rfl) ?_
    refine lv_aload_n hx hb dX1_isOne_5 rfl (lv_at hl 0 rfl) ?_
    refine g_get (q := 2) (ci := 1) (k := 0) (ref := RX1) (C := RX1) (T := TX1) (N := 4) (index := 9) (v := .ref (κ 1)) S hK hP hiX1 (by decide) rfl rfl (by decide) rfl (by decide +kernel) rfl dX1_isOne_6 ?_
    obtain ⟨v1, hq9, hf⟩ := obw hf
    refine g_calli (va_runV (As := []) (rest := [.int p1]) S (met_X2_all l D cI cII κ hκ σ v1 hq9) (cwV 0 S.2.2.2.2 gX1_isOne_X2_all rfl rfl rfl (by decide +kernel) ⟨Nat.le_of_ble_eq_true rfl, Nat.le_of_ble_eq_true rfl⟩) (g_preV (N := 5) (T := TX2) hK hP (Nat.le_refl _) (by decide) rfl rfl) rfl rfl hl.1 rfl (lv_room (Nat.le_of_ble_eq_true rfl)) dX1_isOne_9 ⟨Nat.le_of_ble_eq_true rfl, Nat.le_of_ble_eq_true rfl⟩) (Nat.le_refl _) hκ hA hP hS (fun j h1 h2 => absurd h2 (Nat.not_lt.mpr h1)) (fun H locs hP hS => ?_)
    refine lv_icmp_eq (tgt := 31) hx hb dX1_isOne_12 (by decide) (fun c12 => ?_) (fun c12 => ?_)
    · have hf := iteT c12 hf
      exact J31 _ hf _ _ _ hP hS (lv_sub hl [] rfl)
    · have hf := iteF c12 hf
      refine lv_aload_n hx hb dX1_isOne_15 rfl (lv_at hl 0 rfl) ?_
      refine g_get (q := 2) (ci := 1) (k := 0) (ref := RX1) (C := RX1) (T := TX1) (N := 4) (index := 9) (v := .ref (κ 1)) S hK hP hiX1 (by decide) rfl rfl (by decide) rfl (by decide +kernel) rfl dX1_isOne_16 ?_
      refine lv_iload_n hx hb dX1_isOne_19 rfl (lv_at hl 1 rfl) ?_
      obtain ⟨v2, hq20, hf⟩ := obw hf
      refine g_calli (va_runV (As := [.int p1]) (rest := []) S (met_X2_firstMixed l D cI cII κ hκ σ p1 v2 hq20) (cwV 1 S.2.2.2.2 gX1_isOne_X2_firstMixed rfl rfl rfl (by decide +kernel) ⟨Nat.le_of_ble_eq_true rfl, Nat.le_of_ble_eq_true rfl⟩) (g_preV (N := 5) (T := TX2) hK hP (Nat.le_refl _) (by decide) rfl rfl) rfl rfl hl.1 rfl (lv_room (Nat.le_of_ble_eq_true rfl)) dX1_isOne_20 ⟨Nat.le_of_ble_eq_true rfl, Nat.le_of_ble_eq_true rfl⟩) (Nat.le_refl _) hκ hA hP hS (fun j h1 h2 => absurd h2 (Nat.not_lt.mpr h1)) (fun H locs hP hS => ?_)
      refine lv_iconst (v := -1) hx hb dX1_isOne_23 (by decide) ?_
      refine lv_icmp_ne (tgt := 31) hx hb dX1_isOne_24 (by decide) (fun c24 => ?_) (fun c24 => ?_)
      · have hf := iteT c24 hf
        exact J31 _ hf _ _ _ hP hS (lv_sub hl [] rfl)
      · have hf := iteN c24 hf
        refine lv_iconst (v := 1) hx hb dX1_isOne_27 (by decide) ?_
        refine lv_goto (tgt := 32) hx hb dX1_isOne_28 (by decide) ?_
        exact g_zret S hr hlk hK hP hS hf dX1_isOne_32

set_option maxRecDepth 100000 in
set_option maxHeartbeats 4000000 in
theorem met_X1_search (l : Launch) (D : va_G) (cI cII : ClassId) (κ : Nat → Nat) (hκ : Inj 31 κ) (σ : SX)  (σ' : SX) (hf : fn_X1_search σ  = some σ') : Met l yX1_search wsX1_search ({ frames := 2, cells := 0, slots := 0, locals := 47 } : Room) (va_Pc [.ref (κ 2)] (xP D cI cII κ σ)) (QV D cI cII 31 κ (xC cI cII κ σ')) 0 0 (gA 31 κ) := by
  refine g_enter (cc := cX1_search) (maxL := 3) (ret := none) (by decide) rfl (Nat.le_of_ble_eq_true rfl) ?_
  intro p e s m args below meth c ls S hr hlk _ hB hl
  have S : CallFix p m c cX1_search 3 s args wsX1_search RX1 := S
  obtain ⟨hP, hK⟩ := hB
  have hl : lv_has ls 3 [(0, .ref (κ 2))] := hl
  have hS : va_S (gA 31 κ) s.heap s.heap [] := va_S.rf
  have hA : ∀ k, k < 31 → gA 31 κ (κ k) := gA_in
  obtain ⟨hx, hb, hml, hown, hts⟩ := id S
  have hiX1 : ∀ w ∈ u_ws RX1 TX1 4, w ∈ wsX1_search := by decide +kernel
  unfold fn_X1_search at hf
  refine lv_aload_n hx hb dX1_search_0 rfl (lv_at hl 0 rfl) ?_
  refine lv_iconst (v := 0) hx hb dX1_search_1 (by decide) ?_
  obtain ⟨σ1, eσ1, hf⟩ := letb_w hf
  refine g_put (q := 2) (ci := 1) (k := 2) (ref := RX1) (C := RX1) (T := TX1) (N := 4) (index := 36) (ty := .int) (f' := (xC cI cII κ σ1)) S hK hP hκ hA hS hiX1 tyX1_ok nmX1 (by decide) rfl rfl (by decide) rfl (by decide +kernel) rfl (by decide +kernel) rfl rfl (Nat.le_of_ble_eq_true rfl) (fun j _ => by rw [eσ1]; exact xC_p1 j) dX1_search_2 (fun H locs hP hS => ?_)
  refine lv_aload_n hx hb dX1_search_5 rfl (lv_at hl 0 rfl) ?_
  refine g_get (q := 2) (ci := 1) (k := 0) (ref := RX1) (C := RX1) (T := TX1) (N := 4) (index := 9) (v := .ref (κ 1)) S hK hP hiX1 (by decide) rfl rfl (by decide) rfl (by decide +kernel) rfl dX1_search_6 ?_
  obtain ⟨v2, hq9, hf⟩ := obw hf
  refine g_calli (va_runV (As := []) (rest := []) S (met_X2_all l D cI cII κ hκ σ1 v2 hq9) (cwV 0 S.2.2.2.2 gX1_search_X2_all rfl rfl rfl (by decide +kernel) ⟨Nat.le_of_ble_eq_true rfl, Nat.le_of_ble_eq_true rfl⟩) (g_preV (N := 5) (T := TX2) hK hP (Nat.le_refl _) (by decide) rfl rfl) rfl rfl hl.1 rfl (lv_room (Nat.le_of_ble_eq_true rfl)) dX1_search_9 ⟨Nat.le_of_ble_eq_true rfl, Nat.le_of_ble_eq_true rfl⟩) (Nat.le_refl _) hκ hA hP hS (fun j h1 h2 => absurd h2 (Nat.not_lt.mpr h1)) (fun H locs hP hS => ?_)
  obtain ⟨v3, ev3, hf⟩ := letb_w hf
  refine lv_nmi ev3 ?_
  refine lv_istore_n (lv' := [(1, .int v3), (0, .ref (κ 2))]) hx hb dX1_search_12 rfl hl (by decide) rfl (fun ls hl => ?_)
  refine lv_iconst (v := 1) hx hb dX1_search_13 (by decide) ?_
  obtain ⟨v4, ev4, hf⟩ := letb_w hf
  refine lv_nmi ev4 ?_
  refine lv_istore_n (lv' := [(2, .int v4), (1, .int v3), (0, .ref (κ 2))]) hx hb dX1_search_14 rfl hl (by decide) rfl (fun ls hl => ?_)
  refine loopF_w (P := fun (g : Int32 → SX → Option (SX)) => ∀ (x2_15 : Int32) (σ_15 : SX), g x2_15 σ_15 = some σ' → ∀ (H : Heap) (locs : List Loc) (ls : Array Slot), va_P D vwCl (gw 31 κ (xC cI cII κ σ_15)) H → va_S (gA 31 κ) s.heap H locs → lv_has ls 3 [(0, .ref (κ 2)), (1, .int v3), (2, .int x2_15)] → W p l e ({ frames := 2, cells := 0, slots := 0, locals := 47 } : Room) s m args below meth c H locs 0 0 (MQ below (QV D cI cII 31 κ (xC cI cII κ σ')) args s 0 0 (gA 31 κ)) (F0 m 15 ls [])) (fun _ _ h => by simp at h) ?_ FU _ _ hf _ _ _ hP hS (lv_sub hl [2, 1, 0] rfl)
  intro rec15 ih15 x2_15 σ_15 hf H locs ls hP hS hl
  unfold bd_X1_search_15 at hf
  refine lv_iload_n hx hb dX1_search_15 rfl (lv_at hl 2 rfl) ?_
  refine lv_iload_n hx hb dX1_search_16 rfl (lv_at hl 1 rfl) ?_
  refine lv_icmp_ge (tgt := 68) hx hb dX1_search_17 (by decide) (fun c17 => ?_) (fun c17 => ?_)
  · have hf := iteT c17 hf
    obtain rfl := Option.some.inj hf
    exact g_vret S hr hlk hK hP hS dX1_search_68
  · have hf := iteF c17 hf
    refine lv_aload_n hx hb dX1_search_20 rfl (lv_at hl 0 rfl) ?_
    refine g_get (q := 2) (ci := 1) (k := 0) (ref := RX1) (C := RX1) (T := TX1) (N := 4) (index := 9) (v := .ref (κ 1)) S hK hP hiX1 (by decide) rfl rfl (by decide) rfl (by decide +kernel) rfl dX1_search_21 ?_
    refine lv_iload_n hx hb dX1_search_24 rfl (lv_at hl 2 rfl) ?_
    obtain ⟨v5, hq25, hf⟩ := obw hf
    refine g_calli (va_runV (As := [.int x2_15]) (rest := []) S (met_X2_firstMixed l D cI cII κ hκ σ_15 x2_15 v5 hq25) (cwV 1 S.2.2.2.2 gX1_search_X2_firstMixed rfl rfl rfl (by decide +kernel) ⟨Nat.le_of_ble_eq_true rfl, Nat.le_of_ble_eq_true rfl⟩) (g_preV (N := 5) (T := TX2) hK hP (Nat.le_refl _) (by decide) rfl rfl) rfl rfl hl.1 rfl (lv_room (Nat.le_of_ble_eq_true rfl)) dX1_search_25 ⟨Nat.le_of_ble_eq_true rfl, Nat.le_of_ble_eq_true rfl⟩) (Nat.le_refl _) hκ hA hP hS (fun j h1 h2 => absurd h2 (Nat.not_lt.mpr h1)) (fun H locs hP hS => ?_)
    refine lv_iconst (v := -1) hx hb dX1_search_28 (by decide) ?_
    obtain ⟨K62, hK62, hf⟩ := letb_w hf
    have J62 : ∀ (τ_62 : SX), K62 τ_62 = some σ' → ∀ (H : Heap) (locs : List Loc) (ls : Array Slot), va_P D vwCl (gw 31 κ (xC cI cII κ τ_62)) H → va_S (gA 31 κ) s.heap H locs → lv_has ls 3 [(0, .ref (κ 2)), (1, .int v3), (2, .int x2_15)] → W p l e ({ frames := 2, cells := 0, slots := 0, locals := 47 } : Room) s m args below meth c H locs 0 0 (MQ below (QV D cI cII 31 κ (xC cI cII κ σ')) args s 0 0 (gA 31 κ)) (F0 m 62 ls []) := by
      intro τ_62 hf H locs ls hP hS hl
      rw [hK62] at hf
      obtain ⟨v6, ev6, hf⟩ := letb_w hf
      refine lv_iinc (v := v6) (lv' := [(2, .int v6), (0, .ref (κ 2)), (1, .int v3)]) hx hb dX1_search_62 hl (k := 2) rfl (by rw [ev6]; rfl) (by decide) rfl (fun ls hl => ?_)
      refine lv_goto (tgt := 15) hx hb dX1_search_65 (by decide) ?_
      exact ih15 _ _ hf _ _ _ hP hS (lv_sub hl [1, 2, 0] rfl)
    refine lv_icmp_ne (tgt := 62) hx hb dX1_search_29 (by decide) (fun c29 => ?_) (fun c29 => ?_)
    · have hf := iteT c29 hf
      exact J62 _ hf _ _ _ hP hS (lv_sub hl [0, 1, 2] rfl)
    · have hf := iteN c29 hf
      refine lv_aload_n hx hb dX1_search_32 rfl (lv_at hl 0 rfl) ?_
      refine g_get (q := 2) (ci := 1) (k := 2) (ref := RX1) (C := RX1) (T := TX1) (N := 4) (index := 36) (v := .int ((σ_15.1 1))) S hK hP hiX1 (by decide) rfl rfl (by decide) rfl (by decide +kernel) rfl dX1_search_33 ?_
      refine lv_sipush (v := 4094) hx hb dX1_search_36 (by decide) ?_
      refine lv_icmp_ge (tgt := 62) hx hb dX1_search_39 (by decide) (fun c39 => ?_) (fun c39 => ?_)
      · have hf := iteT c39 hf
        exact J62 _ hf _ _ _ hP hS (lv_sub hl [0, 1, 2] rfl)
      · have hf := iteF c39 hf
        refine lv_aload_n hx hb dX1_search_42 rfl (lv_at hl 0 rfl) ?_
        refine g_get (q := 2) (ci := 1) (k := 1) (ref := RX1) (C := RX1) (T := TX1) (N := 4) (index := 15) (v := .ref (κ 8)) S hK hP hiX1 (by decide) rfl rfl (by decide) rfl (by decide +kernel) rfl dX1_search_43 ?_
        refine lv_aload_n hx hb dX1_search_46 rfl (lv_at hl 0 rfl) ?_
        refine g_get (q := 2) (ci := 1) (k := 2) (ref := RX1) (C := RX1) (T := TX1) (N := 4) (index := 36) (v := .int ((σ_15.1 1))) S hK hP hiX1 (by decide) rfl rfl (by decide) rfl (by decide +kernel) rfl dX1_search_47 ?_
        refine lv_iload_n hx hb dX1_search_50 rfl (lv_at hl 2 rfl) ?_
        obtain ⟨σ7, hσ7, hf⟩ := obw hf
        refine g_ast (a := 8) (len := 4094) (f' := (xC cI cII κ σ7)) S hK hP hκ hA hS (by decide) (xC_arr (by decide) rfl) hσ7 (fun j _ => xC_as hσ7 (by decide) rfl j) dX1_search_51 (fun H locs hP hS => ?_)
        refine lv_aload_n hx hb dX1_search_52 rfl (lv_at hl 0 rfl) ?_
        refine lv_dup hx hb dX1_search_53 rfl ?_
        refine g_get (q := 2) (ci := 1) (k := 2) (ref := RX1) (C := RX1) (T := TX1) (N := 4) (index := 36) (v := .int ((σ7.1 1))) S hK hP hiX1 (by decide) rfl rfl (by decide) rfl (by decide +kernel) rfl dX1_search_54 ?_
        refine lv_iconst (v := 1) hx hb dX1_search_57 (by decide) ?_
        refine lv_iadd hx hb dX1_search_58 ?_
        obtain ⟨σ8, eσ8, hf⟩ := letb_w hf
        refine g_put (q := 2) (ci := 1) (k := 2) (ref := RX1) (C := RX1) (T := TX1) (N := 4) (index := 36) (ty := .int) (f' := (xC cI cII κ σ8)) S hK hP hκ hA hS hiX1 tyX1_ok nmX1 (by decide) rfl rfl (by decide) rfl (by decide +kernel) rfl (by decide +kernel) rfl rfl (Nat.le_of_ble_eq_true rfl) (fun j _ => by rw [eσ8]; exact xC_p1 j) dX1_search_59 (fun H locs hP hS => ?_)
        exact J62 _ hf _ _ _ hP hS (lv_sub hl [0, 1, 2] rfl)

set_option maxRecDepth 100000 in
set_option maxHeartbeats 4000000 in
theorem met_X1_count (l : Launch) (D : va_G) (cI cII : ClassId) (κ : Nat → Nat) (hκ : Inj 31 κ) (σ : SX)  (r : Int32) (σ' : SX) (hf : fn_X1_count σ  = some (r, σ')) : Met l yX1_count wsX1_count ({ frames := 3, cells := 0, slots := 0, locals := 69 } : Room) (va_Pc [.ref (κ 2)] (xP D cI cII κ σ)) (QI D cI cII 31 κ (xC cI cII κ σ') r) 0 0 (gA 31 κ) := by
  refine g_enter (cc := cX1_count) (maxL := 1) (ret := (some .int)) (by decide) rfl (Nat.le_of_ble_eq_true rfl) ?_
  intro p e s m args below meth c ls S hr hlk _ hB hl
  have S : CallFix p m c cX1_count 1 s args wsX1_count RX1 := S
  obtain ⟨hP, hK⟩ := hB
  have hl : lv_has ls 1 [(0, .ref (κ 2))] := hl
  have hS : va_S (gA 31 κ) s.heap s.heap [] := va_S.rf
  have hA : ∀ k, k < 31 → gA 31 κ (κ k) := gA_in
  obtain ⟨hx, hb, hml, hown, hts⟩ := id S
  have hiX1 : ∀ w ∈ u_ws RX1 TX1 4, w ∈ wsX1_count := by decide +kernel
  unfold fn_X1_count at hf
  refine lv_aload_n hx hb dX1_count_0 rfl (lv_at hl 0 rfl) ?_
  refine g_get (q := 2) (ci := 1) (k := 3) (ref := RX1) (C := RX1) (T := TX1) (N := 4) (index := 29) (v := .int ((σ.1 2))) S hK hP hiX1 (by decide) rfl rfl (by decide) rfl (by decide +kernel) rfl dX1_count_1 ?_
  obtain ⟨K16, hK16, hf⟩ := letb_w hf
  have J16 : ∀ (τ_16 : SX), K16 τ_16 = some (r, σ') → ∀ (H : Heap) (locs : List Loc) (ls : Array Slot), va_P D vwCl (gw 31 κ (xC cI cII κ τ_16)) H → va_S (gA 31 κ) s.heap H locs → lv_has ls 1 [(0, .ref (κ 2))] → W p l e ({ frames := 3, cells := 0, slots := 0, locals := 69 } : Room) s m args below meth c H locs 0 0 (MQ below (QI D cI cII 31 κ (xC cI cII κ σ') r) args s 0 0 (gA 31 κ)) (F0 m 16 ls []) := by
    intro τ_16 hf H locs ls hP hS hl
    rw [hK16] at hf
    refine lv_aload_n hx hb dX1_count_16 rfl (lv_at hl 0 rfl) ?_
    refine g_get (q := 2) (ci := 1) (k := 2) (ref := RX1) (C := RX1) (T := TX1) (N := 4) (index := 36) (v := .int ((τ_16.1 1))) S hK hP hiX1 (by decide) rfl rfl (by decide) rfl (by decide +kernel) rfl dX1_count_17 ?_
    obtain ⟨h8, h9⟩ := Prod.mk.inj (Option.some.inj hf)
    subst h9
    exact g_iret S hr hlk hK hP hS h8 dX1_count_20
  refine lv_if_ne (tgt := 16) hx hb dX1_count_4 (by decide) (fun c4 => ?_) (fun c4 => ?_)
  · have hf := iteT c4 hf
    exact J16 _ hf _ _ _ hP hS (lv_sub hl [0] rfl)
  · have hf := iteN c4 hf
    refine lv_aload_n hx hb dX1_count_7 rfl (lv_at hl 0 rfl) ?_
    obtain ⟨σ1, hq8, hf⟩ := obw hf
    refine g_callv (va_runV (As := []) (rest := []) S (met_X1_search l D cI cII κ hκ σ σ1 hq8) (cwV 0 S.2.2.2.2 gX1_count_X1_search rfl rfl rfl (by decide +kernel) ⟨Nat.le_of_ble_eq_true rfl, Nat.le_of_ble_eq_true rfl⟩) (g_preV (N := 4) (T := TX1) hK hP (Nat.le_refl _) (by decide) rfl rfl) rfl rfl hl.1 rfl (lv_room (Nat.le_of_ble_eq_true rfl)) dX1_count_8 ⟨Nat.le_of_ble_eq_true rfl, Nat.le_of_ble_eq_true rfl⟩) (Nat.le_refl _) hκ hA hP hS (fun j h1 h2 => absurd h2 (Nat.not_lt.mpr h1)) (fun H locs hP hS => ?_)
    refine lv_aload_n hx hb dX1_count_11 rfl (lv_at hl 0 rfl) ?_
    refine lv_iconst (v := 1) hx hb dX1_count_12 (by decide) ?_
    obtain ⟨σ2, eσ2, hf⟩ := letb_w hf
    refine g_put (q := 2) (ci := 1) (k := 3) (ref := RX1) (C := RX1) (T := TX1) (N := 4) (index := 29) (ty := .boolean) (f' := (xC cI cII κ σ2)) S hK hP hκ hA hS hiX1 tyX1_ok nmX1 (by decide) rfl rfl (by decide) rfl (by decide +kernel) rfl (by decide +kernel) rfl rfl (Nat.le_of_ble_eq_true rfl) (fun j _ => by rw [eσ2]; exact xC_p2 j) dX1_count_13 (fun H locs hP hS => ?_)
    exact J16 _ hf _ _ _ hP hS (lv_sub hl [0] rfl)

set_option maxRecDepth 100000 in
set_option maxHeartbeats 4000000 in
theorem met_X1_at (l : Launch) (D : va_G) (cI cII : ClassId) (κ : Nat → Nat) (hκ : Inj 31 κ) (σ : SX) (p1 : Int32) (r : Int32) (hf : fn_X1_at σ p1 = some r) : Met l yX1_at wsX1_at ({ frames := 0, cells := 0, slots := 0, locals := 0 } : Room) (va_Pc [.ref (κ 2), .int p1] (xP D cI cII κ σ)) (QI D cI cII 31 κ (xC cI cII κ σ) r) 0 0 (gA 31 κ) := by
  refine g_enter (cc := cX1_at) (maxL := 2) (ret := (some .int)) (by decide) rfl (Nat.le_of_ble_eq_true rfl) ?_
  intro p e s m args below meth c ls S hr hlk _ hB hl
  have S : CallFix p m c cX1_at 2 s args wsX1_at RX1 := S
  obtain ⟨hP, hK⟩ := hB
  have hl : lv_has ls 2 [(0, .ref (κ 2)), (1, .int p1)] := hl
  have hS : va_S (gA 31 κ) s.heap s.heap [] := va_S.rf
  have hA : ∀ k, k < 31 → gA 31 κ (κ k) := gA_in
  obtain ⟨hx, hb, hml, hown, hts⟩ := id S
  have hiX1 : ∀ w ∈ u_ws RX1 TX1 4, w ∈ wsX1_at := by decide +kernel
  unfold fn_X1_at at hf
  refine lv_aload_n hx hb dX1_at_0 rfl (lv_at hl 0 rfl) ?_
  refine g_get (q := 2) (ci := 1) (k := 1) (ref := RX1) (C := RX1) (T := TX1) (N := 4) (index := 15) (v := .ref (κ 8)) S hK hP hiX1 (by decide) rfl rfl (by decide) rfl (by decide +kernel) rfl dX1_at_1 ?_
  refine lv_iload_n hx hb dX1_at_4 rfl (lv_at hl 1 rfl) ?_
  obtain ⟨v1, hv1, hf⟩ := obw hf
  refine g_ald (a := 8) (len := 4094) S hK hP (by decide) (xC_arr (by decide) rfl) hv1 dX1_at_5 ?_
  exact g_iret S hr hlk hK hP hS (Option.some.inj hf) dX1_at_6

set_option maxRecDepth 100000 in
set_option maxHeartbeats 4000000 in
theorem met_X1_hasNoPart (l : Launch) (D : va_G) (cI cII : ClassId) (κ : Nat → Nat) (hκ : Inj 31 κ) (σ : SX) (p1 : Int32) (r : Int32) (hf : fn_X1_hasNoPart σ p1 = some r) : Met l yX1_hasNoPart wsX1_hasNoPart ({ frames := 0, cells := 0, slots := 0, locals := 0 } : Room) (va_Pc [.ref (κ 2), .int p1] (xP D cI cII κ σ)) (QI D cI cII 31 κ (xC cI cII κ σ) r) 0 0 (gA 31 κ) := by
  refine g_enter (cc := cX1_hasNoPart) (maxL := 3) (ret := (some .boolean)) (by decide) rfl (Nat.le_of_ble_eq_true rfl) ?_
  intro p e s m args below meth c ls S hr hlk _ hB hl
  have S : CallFix p m c cX1_hasNoPart 3 s args wsX1_hasNoPart RX1 := S
  obtain ⟨hP, hK⟩ := hB
  have hl : lv_has ls 3 [(0, .ref (κ 2)), (1, .int p1)] := hl
  have hS : va_S (gA 31 κ) s.heap s.heap [] := va_S.rf
  have hA : ∀ k, k < 31 → gA 31 κ (κ k) := gA_in
  obtain ⟨hx, hb, hml, hown, hts⟩ := id S
  have hiX1 : ∀ w ∈ u_ws RX1 TX1 4, w ∈ wsX1_hasNoPart := by decide +kernel
  unfold fn_X1_hasNoPart at hf
  refine lv_iconst (v := 0) hx hb dX1_hasNoPart_0 (by decide) ?_
  obtain ⟨v1, ev1, hf⟩ := letb_w hf
  refine lv_nmi ev1 ?_
  refine lv_istore_n (lv' := [(2, .int v1), (0, .ref (κ 2)), (1, .int p1)]) hx hb dX1_hasNoPart_1 rfl hl (by decide) rfl (fun ls hl => ?_)
  refine loopF_w (P := fun (g : Int32 → Option (Int32)) => ∀ (x2_2 : Int32), g x2_2 = some r → ∀ (H : Heap) (locs : List Loc) (ls : Array Slot), va_P D vwCl (gw 31 κ (xC cI cII κ σ)) H → va_S (gA 31 κ) s.heap H locs → lv_has ls 3 [(0, .ref (κ 2)), (1, .int p1), (2, .int x2_2)] → W p l e ({ frames := 0, cells := 0, slots := 0, locals := 0 } : Room) s m args below meth c H locs 0 0 (MQ below (QI D cI cII 31 κ (xC cI cII κ σ) r) args s 0 0 (gA 31 κ)) (F0 m 2 ls [])) (fun _ h => by simp at h) ?_ FU _ hf _ _ _ hP hS (lv_sub hl [1, 2, 0] rfl)
  intro rec2 ih2 x2_2 hf H locs ls hP hS hl
  unfold bd_X1_hasNoPart_2 at hf
  refine lv_iload_n hx hb dX1_hasNoPart_2 rfl (lv_at hl 2 rfl) ?_
  refine lv_iload_n hx hb dX1_hasNoPart_3 rfl (lv_at hl 1 rfl) ?_
  refine lv_icmp_ge (tgt := 33) hx hb dX1_hasNoPart_4 (by decide) (fun c4 => ?_) (fun c4 => ?_)
  · have hf := iteT c4 hf
    refine lv_iconst (v := 1) hx hb dX1_hasNoPart_33 (by decide) ?_
    exact g_zret S hr hlk hK hP hS hf dX1_hasNoPart_34
  · have hf := iteF c4 hf
    refine lv_aload_n hx hb dX1_hasNoPart_7 rfl (lv_at hl 0 rfl) ?_
    refine g_get (q := 2) (ci := 1) (k := 1) (ref := RX1) (C := RX1) (T := TX1) (N := 4) (index := 15) (v := .ref (κ 8)) S hK hP hiX1 (by decide) rfl rfl (by decide) rfl (by decide +kernel) rfl dX1_hasNoPart_8 ?_
    refine lv_iload_n hx hb dX1_hasNoPart_11 rfl (lv_at hl 2 rfl) ?_
    obtain ⟨v2, hv2, hf⟩ := obw hf
    refine g_ald (a := 8) (len := 4094) S hK hP (by decide) (xC_arr (by decide) rfl) hv2 dX1_hasNoPart_12 ?_
    refine lv_aload_n hx hb dX1_hasNoPart_13 rfl (lv_at hl 0 rfl) ?_
    refine g_get (q := 2) (ci := 1) (k := 1) (ref := RX1) (C := RX1) (T := TX1) (N := 4) (index := 15) (v := .ref (κ 8)) S hK hP hiX1 (by decide) rfl rfl (by decide) rfl (by decide +kernel) rfl dX1_hasNoPart_14 ?_
    refine lv_iload_n hx hb dX1_hasNoPart_17 rfl (lv_at hl 1 rfl) ?_
    obtain ⟨v3, hv3, hf⟩ := obw hf
    refine g_ald (a := 8) (len := 4094) S hK hP (by decide) (xC_arr (by decide) rfl) hv3 dX1_hasNoPart_18 ?_
    refine lv_iconst (v := -1) hx hb dX1_hasNoPart_19 (by decide) ?_
    refine lv_ixor hx hb dX1_hasNoPart_20 ?_
    refine lv_iand hx hb dX1_hasNoPart_21 ?_
    refine lv_if_ne (tgt := 27) hx hb dX1_hasNoPart_22 (by decide) (fun c22 => ?_) (fun c22 => ?_)
    · have hf := iteT c22 hf
      obtain ⟨v4, ev4, hf⟩ := letb_w hf
      refine lv_iinc (v := v4) (lv' := [(2, .int v4), (0, .ref (κ 2)), (1, .int p1)]) hx hb dX1_hasNoPart_27 hl (k := 2) rfl (by rw [ev4]; rfl) (by decide) rfl (fun ls hl => ?_)
      refine lv_goto (tgt := 2) hx hb dX1_hasNoPart_30 (by decide) ?_
      exact ih2 _ hf _ _ _ hP hS (lv_sub hl [1, 2, 0] rfl)
    · have hf := iteN c22 hf
      refine lv_iconst (v := 0) hx hb dX1_hasNoPart_25 (by decide) ?_
      exact g_zret S hr hlk hK hP hS hf dX1_hasNoPart_26

set_option maxRecDepth 100000 in
set_option maxHeartbeats 4000000 in
theorem met_X1_firstApart (l : Launch) (D : va_G) (cI cII : ClassId) (κ : Nat → Nat) (hκ : Inj 31 κ) (σ : SX) (p1 : Int32) (p2 : Int32) (r : Int32) (σ' : SX) (hf : fn_X1_firstApart σ p1 p2 = some (r, σ')) : Met l yX1_firstApart wsX1_firstApart ({ frames := 4, cells := 0, slots := 0, locals := 89 } : Room) (va_Pc [.ref (κ 2), .int p1, .int p2] (xP D cI cII κ σ)) (QI D cI cII 31 κ (xC cI cII κ σ') r) 0 0 (gA 31 κ) := by
  refine g_enter (cc := cX1_firstApart) (maxL := 5) (ret := (some .int)) (by decide) rfl (Nat.le_of_ble_eq_true rfl) ?_
  intro p e s m args below meth c ls S hr hlk _ hB hl
  have S : CallFix p m c cX1_firstApart 5 s args wsX1_firstApart RX1 := S
  obtain ⟨hP, hK⟩ := hB
  have hl : lv_has ls 5 [(0, .ref (κ 2)), (1, .int p1), (2, .int p2)] := hl
  have hS : va_S (gA 31 κ) s.heap s.heap [] := va_S.rf
  have hA : ∀ k, k < 31 → gA 31 κ (κ k) := gA_in
  obtain ⟨hx, hb, hml, hown, hts⟩ := id S
  have hiX1 : ∀ w ∈ u_ws RX1 TX1 4, w ∈ wsX1_firstApart := by decide +kernel
  unfold fn_X1_firstApart at hf
  refine lv_aload_n hx hb dX1_firstApart_0 rfl (lv_at hl 0 rfl) ?_
  obtain ⟨v2, σ1, hq1, hf⟩ := bind2_w hf
  refine g_calli (va_runV (As := []) (rest := []) S (met_X1_count l D cI cII κ hκ σ v2 σ1 hq1) (cwV 0 S.2.2.2.2 gX1_firstApart_X1_count rfl rfl rfl (by decide +kernel) ⟨Nat.le_of_ble_eq_true rfl, Nat.le_of_ble_eq_true rfl⟩) (g_preV (N := 4) (T := TX1) hK hP (Nat.le_refl _) (by decide) rfl rfl) rfl rfl hl.1 rfl (lv_room (Nat.le_of_ble_eq_true rfl)) dX1_firstApart_1 ⟨Nat.le_of_ble_eq_true rfl, Nat.le_of_ble_eq_true rfl⟩) (Nat.le_refl _) hκ hA hP hS (fun j h1 h2 => absurd h2 (Nat.not_lt.mpr h1)) (fun H locs hP hS => ?_)
  obtain ⟨v3, ev3, hf⟩ := letb_w hf
  refine lv_nmi ev3 ?_
  refine lv_istore_n (lv' := [(3, .int v3), (0, .ref (κ 2)), (1, .int p1), (2, .int p2)]) hx hb dX1_firstApart_4 rfl hl (by decide) rfl (fun ls hl => ?_)
  refine lv_iconst (v := 0) hx hb dX1_firstApart_5 (by decide) ?_
  obtain ⟨v4, ev4, hf⟩ := letb_w hf
  refine lv_nmi ev4 ?_
  refine lv_istore (lv' := [(4, .int v4), (3, .int v3), (0, .ref (κ 2)), (1, .int p1), (2, .int p2)]) hx hb dX1_firstApart_6 hl (by decide) rfl (fun ls hl => ?_)
  refine loopF_w (P := fun (g : Int32 → Option (Int32 × SX)) => ∀ (x4_8 : Int32), g x4_8 = some (r, σ') → ∀ (H : Heap) (locs : List Loc) (ls : Array Slot), va_P D vwCl (gw 31 κ (xC cI cII κ σ1)) H → va_S (gA 31 κ) s.heap H locs → lv_has ls 5 [(0, .ref (κ 2)), (1, .int p1), (2, .int p2), (3, .int v3), (4, .int x4_8)] → W p l e ({ frames := 4, cells := 0, slots := 0, locals := 89 } : Room) s m args below meth c H locs 0 0 (MQ below (QI D cI cII 31 κ (xC cI cII κ σ') r) args s 0 0 (gA 31 κ)) (F0 m 8 ls [])) (fun _ h => by simp at h) ?_ FU _ hf _ _ _ hP hS (lv_sub hl [2, 3, 4, 1, 0] rfl)
  intro rec8 ih8 x4_8 hf H locs ls hP hS hl
  unfold bd_X1_firstApart_8 at hf
  refine lv_iload hx hb dX1_firstApart_8 (lv_at hl 4 rfl) ?_
  refine lv_iload_n hx hb dX1_firstApart_10 rfl (lv_at hl 3 rfl) ?_
  refine lv_icmp_ge (tgt := 48) hx hb dX1_firstApart_11 (by decide) (fun c11 => ?_) (fun c11 => ?_)
  · have hf := iteT c11 hf
    refine lv_iconst (v := -1) hx hb dX1_firstApart_48 (by decide) ?_
    obtain ⟨h8, h9⟩ := Prod.mk.inj (Option.some.inj hf)
    subst h9
    exact g_iret S hr hlk hK hP hS h8 dX1_firstApart_49
  · have hf := iteF c11 hf
    refine lv_aload_n hx hb dX1_firstApart_14 rfl (lv_at hl 0 rfl) ?_
    refine g_get (q := 2) (ci := 1) (k := 1) (ref := RX1) (C := RX1) (T := TX1) (N := 4) (index := 15) (v := .ref (κ 8)) S hK hP hiX1 (by decide) rfl rfl (by decide) rfl (by decide +kernel) rfl dX1_firstApart_15 ?_
    refine lv_iload hx hb dX1_firstApart_18 (lv_at hl 4 rfl) ?_
    obtain ⟨v5, hv5, hf⟩ := obw hf
    refine g_ald (a := 8) (len := 4094) S hK hP (by decide) (xC_arr (by decide) rfl) hv5 dX1_firstApart_20 ?_
    refine lv_iload_n hx hb dX1_firstApart_21 rfl (lv_at hl 1 rfl) ?_
    obtain ⟨v6, hq22, hf⟩ := obw hf
    refine g_calli (va_runSN (As := [.int v5, .int p1]) (rest := []) S (met_X3_has l D cI cII κ hκ σ1 v5 p1 v6 hq22) ⟨va_cnB 2 S.2.2.2.2 gX1_firstApart_X3_has_n42 rfl rfl rfl hK.2.2.2.2.2.2.2.2.2.2.1 (S.2.2.2.2 (.initialized RX3) (by decide +kernel)) (by decide +kernel) ⟨Nat.le_of_ble_eq_true rfl, Nat.le_of_ble_eq_true rfl⟩, S.2.2.2.2 (.static yX3_has) (by decide +kernel), trivial⟩ (g_preS hK hP (Nat.le_refl _)) rfl rfl hl.1 rfl (lv_room (Nat.le_of_ble_eq_true rfl)) dX1_firstApart_22 ⟨Nat.le_of_ble_eq_true rfl, Nat.le_of_ble_eq_true rfl⟩) (Nat.le_refl _) hκ hA hP hS (fun j h1 h2 => absurd h2 (Nat.not_lt.mpr h1)) (fun H locs hP hS => ?_)
    refine lv_aload_n hx hb dX1_firstApart_25 rfl (lv_at hl 0 rfl) ?_
    refine g_get (q := 2) (ci := 1) (k := 1) (ref := RX1) (C := RX1) (T := TX1) (N := 4) (index := 15) (v := .ref (κ 8)) S hK hP hiX1 (by decide) rfl rfl (by decide) rfl (by decide +kernel) rfl dX1_firstApart_26 ?_
    refine lv_iload hx hb dX1_firstApart_29 (lv_at hl 4 rfl) ?_
    obtain ⟨v7, hv7, hf⟩ := obw hf
    refine g_ald (a := 8) (len := 4094) S hK hP (by decide) (xC_arr (by decide) rfl) hv7 dX1_firstApart_31 ?_
    refine lv_iload_n hx hb dX1_firstApart_32 rfl (lv_at hl 2 rfl) ?_
    obtain ⟨v8, hq33, hf⟩ := obw hf
    refine g_calli (va_runSN (As := [.int v7, .int p2]) (rest := [.int v6]) S (met_X3_has l D cI cII κ hκ σ1 v7 p2 v8 hq33) ⟨va_cnB 2 S.2.2.2.2 gX1_firstApart_X3_has_n42 rfl rfl rfl hK.2.2.2.2.2.2.2.2.2.2.1 (S.2.2.2.2 (.initialized RX3) (by decide +kernel)) (by decide +kernel) ⟨Nat.le_of_ble_eq_true rfl, Nat.le_of_ble_eq_true rfl⟩, S.2.2.2.2 (.static yX3_has) (by decide +kernel), trivial⟩ (g_preS hK hP (Nat.le_refl _)) rfl rfl hl.1 rfl (lv_room (Nat.le_of_ble_eq_true rfl)) dX1_firstApart_33 ⟨Nat.le_of_ble_eq_true rfl, Nat.le_of_ble_eq_true rfl⟩) (Nat.le_refl _) hκ hA hP hS (fun j h1 h2 => absurd h2 (Nat.not_lt.mpr h1)) (fun H locs hP hS => ?_)
    refine lv_icmp_eq (tgt := 42) hx hb dX1_firstApart_36 (by decide) (fun c36 => ?_) (fun c36 => ?_)
    · have hf := iteT c36 hf
      obtain ⟨v9, ev9, hf⟩ := letb_w hf
      refine lv_iinc (v := v9) (lv' := [(4, .int v9), (0, .ref (κ 2)), (1, .int p1), (2, .int p2), (3, .int v3)]) hx hb dX1_firstApart_42 hl (k := 4) rfl (by rw [ev9]; rfl) (by decide) rfl (fun ls hl => ?_)
      refine lv_goto (tgt := 8) hx hb dX1_firstApart_45 (by decide) ?_
      exact ih8 _ hf _ _ _ hP hS (lv_sub hl [1, 2, 3, 4, 0] rfl)
    · have hf := iteF c36 hf
      refine lv_iload hx hb dX1_firstApart_39 (lv_at hl 4 rfl) ?_
      obtain ⟨h8, h9⟩ := Prod.mk.inj (Option.some.inj hf)
      subst h9
      exact g_iret S hr hlk hK hP hS h8 dX1_firstApart_41

set_option maxRecDepth 100000 in
set_option maxHeartbeats 4000000 in
theorem met_X1_pairsNotApart (l : Launch) (D : va_G) (cI cII : ClassId) (κ : Nat → Nat) (hκ : Inj 31 κ) (σ : SX)  (r : Int32) (σ' : SX) (hf : fn_X1_pairsNotApart σ  = some (r, σ')) : Met l yX1_pairsNotApart wsX1_pairsNotApart ({ frames := 5, cells := 0, slots := 0, locals := 113 } : Room) (va_Pc [.ref (κ 2)] (xP D cI cII κ σ)) (QI D cI cII 31 κ (xC cI cII κ σ') r) 0 0 (gA 31 κ) := by
  refine g_enter (cc := cX1_pairsNotApart) (maxL := 4) (ret := (some .int)) (by decide) rfl (Nat.le_of_ble_eq_true rfl) ?_
  intro p e s m args below meth c ls S hr hlk _ hB hl
  have S : CallFix p m c cX1_pairsNotApart 4 s args wsX1_pairsNotApart RX1 := S
  obtain ⟨hP, hK⟩ := hB
  have hl : lv_has ls 4 [(0, .ref (κ 2))] := hl
  have hS : va_S (gA 31 κ) s.heap s.heap [] := va_S.rf
  have hA : ∀ k, k < 31 → gA 31 κ (κ k) := gA_in
  obtain ⟨hx, hb, hml, hown, hts⟩ := id S
  have hiX1 : ∀ w ∈ u_ws RX1 TX1 4, w ∈ wsX1_pairsNotApart := by decide +kernel
  have hiX2 : ∀ w ∈ u_ws RX2 TX2 5, w ∈ wsX1_pairsNotApart := by decide +kernel
  unfold fn_X1_pairsNotApart at hf
  refine lv_iconst (v := 0) hx hb dX1_pairsNotApart_0 (by decide) ?_
  obtain ⟨v1, ev1, hf⟩ := letb_w hf
  refine lv_nmi ev1 ?_
  refine lv_istore_n (lv' := [(1, .int v1), (0, .ref (κ 2))]) hx hb dX1_pairsNotApart_1 rfl hl (by decide) rfl (fun ls hl => ?_)
  refine lv_iconst (v := 0) hx hb dX1_pairsNotApart_2 (by decide) ?_
  obtain ⟨v2, ev2, hf⟩ := letb_w hf
  refine lv_nmi ev2 ?_
  refine lv_istore_n (lv' := [(2, .int v2), (1, .int v1), (0, .ref (κ 2))]) hx hb dX1_pairsNotApart_3 rfl hl (by decide) rfl (fun ls hl => ?_)
  refine loopF_w (P := fun (g : Int32 → Int32 → SX → Option (Int32 × SX)) => ∀ (x1_4 : Int32) (x2_4 : Int32) (σ_4 : SX), g x1_4 x2_4 σ_4 = some (r, σ') → ∀ (H : Heap) (locs : List Loc) (ls : Array Slot), va_P D vwCl (gw 31 κ (xC cI cII κ σ_4)) H → va_S (gA 31 κ) s.heap H locs → lv_has ls 4 [(0, .ref (κ 2)), (1, .int x1_4), (2, .int x2_4)] → W p l e ({ frames := 5, cells := 0, slots := 0, locals := 113 } : Room) s m args below meth c H locs 0 0 (MQ below (QI D cI cII 31 κ (xC cI cII κ σ') r) args s 0 0 (gA 31 κ)) (F0 m 4 ls [])) (fun _ _ _ h => by simp at h) ?_ FU _ _ _ hf _ _ _ hP hS (lv_sub hl [2, 1, 0] rfl)
  intro rec4 ih4 x1_4 x2_4 σ_4 hf H locs ls hP hS hl
  unfold bd_X1_pairsNotApart_4 at hf
  refine lv_iload_n hx hb dX1_pairsNotApart_4 rfl (lv_at hl 2 rfl) ?_
  refine lv_aload_n hx hb dX1_pairsNotApart_5 rfl (lv_at hl 0 rfl) ?_
  refine g_get (q := 2) (ci := 1) (k := 0) (ref := RX1) (C := RX1) (T := TX1) (N := 4) (index := 9) (v := .ref (κ 1)) S hK hP hiX1 (by decide) rfl rfl (by decide) rfl (by decide +kernel) rfl dX1_pairsNotApart_6 ?_
  refine g_getN (q := 1) (ci := 2) (k := 0) (ref := RX2) (C := RX2) (T := TX2) (N := 5) (index := 54) (v := .int ((σ_4.1 0))) S hK hP hiX2 (by decide) rfl rfl (by decide) rfl hK.2.2.1 rfl dX1_pairsNotApart_9 ?_
  refine lv_icmp_ge (tgt := 55) hx hb dX1_pairsNotApart_12 (by decide) (fun c12 => ?_) (fun c12 => ?_)
  · have hf := iteT c12 hf
    refine lv_iload_n hx hb dX1_pairsNotApart_55 rfl (lv_at hl 1 rfl) ?_
    obtain ⟨h8, h9⟩ := Prod.mk.inj (Option.some.inj hf)
    subst h9
    exact g_iret S hr hlk hK hP hS h8 dX1_pairsNotApart_56
  · have hf := iteF c12 hf
    refine lv_iload_n hx hb dX1_pairsNotApart_15 rfl (lv_at hl 2 rfl) ?_
    refine lv_iconst (v := 1) hx hb dX1_pairsNotApart_16 (by decide) ?_
    refine lv_iadd hx hb dX1_pairsNotApart_17 ?_
    obtain ⟨v3, ev3, hf⟩ := letb_w hf
    refine lv_nmi ev3 ?_
    refine lv_istore_n (lv' := [(3, .int v3), (0, .ref (κ 2)), (1, .int x1_4), (2, .int x2_4)]) hx hb dX1_pairsNotApart_18 rfl hl (by decide) rfl (fun ls hl => ?_)
    refine loopF_w (P := fun (g : Int32 → Int32 → SX → Option (Int32 × SX)) => ∀ (x1_19 : Int32) (x3_19 : Int32) (σ_19 : SX), g x1_19 x3_19 σ_19 = some (r, σ') → ∀ (H : Heap) (locs : List Loc) (ls : Array Slot), va_P D vwCl (gw 31 κ (xC cI cII κ σ_19)) H → va_S (gA 31 κ) s.heap H locs → lv_has ls 4 [(0, .ref (κ 2)), (1, .int x1_19), (2, .int x2_4), (3, .int x3_19)] → W p l e ({ frames := 5, cells := 0, slots := 0, locals := 113 } : Room) s m args below meth c H locs 0 0 (MQ below (QI D cI cII 31 κ (xC cI cII κ σ') r) args s 0 0 (gA 31 κ)) (F0 m 19 ls [])) (fun _ _ _ h => by simp at h) ?_ FU _ _ _ hf _ _ _ hP hS (lv_sub hl [1, 2, 3, 0] rfl)
    intro rec19 ih19 x1_19 x3_19 σ_19 hf H locs ls hP hS hl
    unfold bd_X1_pairsNotApart_19 at hf
    refine lv_iload_n hx hb dX1_pairsNotApart_19 rfl (lv_at hl 3 rfl) ?_
    refine lv_aload_n hx hb dX1_pairsNotApart_20 rfl (lv_at hl 0 rfl) ?_
    refine g_get (q := 2) (ci := 1) (k := 0) (ref := RX1) (C := RX1) (T := TX1) (N := 4) (index := 9) (v := .ref (κ 1)) S hK hP hiX1 (by decide) rfl rfl (by decide) rfl (by decide +kernel) rfl dX1_pairsNotApart_21 ?_
    refine g_getN (q := 1) (ci := 2) (k := 0) (ref := RX2) (C := RX2) (T := TX2) (N := 5) (index := 54) (v := .int ((σ_19.1 0))) S hK hP hiX2 (by decide) rfl rfl (by decide) rfl hK.2.2.1 rfl dX1_pairsNotApart_24 ?_
    refine lv_icmp_ge (tgt := 49) hx hb dX1_pairsNotApart_27 (by decide) (fun c27 => ?_) (fun c27 => ?_)
    · have hf := iteT c27 hf
      obtain ⟨v4, ev4, hf⟩ := letb_w hf
      refine lv_iinc (v := v4) (lv' := [(2, .int v4), (0, .ref (κ 2)), (1, .int x1_19), (3, .int x3_19)]) hx hb dX1_pairsNotApart_49 hl (k := 2) rfl (by rw [ev4]; rfl) (by decide) rfl (fun ls hl => ?_)
      refine lv_goto (tgt := 4) hx hb dX1_pairsNotApart_52 (by decide) ?_
      exact ih4 _ _ _ hf _ _ _ hP hS (lv_sub hl [1, 2, 0] rfl)
    · have hf := iteF c27 hf
      refine lv_aload_n hx hb dX1_pairsNotApart_30 rfl (lv_at hl 0 rfl) ?_
      refine lv_iload_n hx hb dX1_pairsNotApart_31 rfl (lv_at hl 2 rfl) ?_
      refine lv_iload_n hx hb dX1_pairsNotApart_32 rfl (lv_at hl 3 rfl) ?_
      obtain ⟨v6, σ5, hq33, hf⟩ := bind2_w hf
      refine g_calli (va_runV (As := [.int x2_4, .int x3_19]) (rest := []) S (met_X1_firstApart l D cI cII κ hκ σ_19 x2_4 x3_19 v6 σ5 hq33) (cwV 2 S.2.2.2.2 gX1_pairsNotApart_X1_firstApart rfl rfl rfl (by decide +kernel) ⟨Nat.le_of_ble_eq_true rfl, Nat.le_of_ble_eq_true rfl⟩) (g_preV (N := 4) (T := TX1) hK hP (Nat.le_refl _) (by decide) rfl rfl) rfl rfl hl.1 rfl (lv_room (Nat.le_of_ble_eq_true rfl)) dX1_pairsNotApart_33 ⟨Nat.le_of_ble_eq_true rfl, Nat.le_of_ble_eq_true rfl⟩) (Nat.le_refl _) hκ hA hP hS (fun j h1 h2 => absurd h2 (Nat.not_lt.mpr h1)) (fun H locs hP hS => ?_)
      refine lv_iconst (v := -1) hx hb dX1_pairsNotApart_36 (by decide) ?_
      obtain ⟨K43, hK43, hf⟩ := letb_w hf
      have J43 : ∀ (y1_43 : Int32), K43 y1_43 = some (r, σ') → ∀ (H : Heap) (locs : List Loc) (ls : Array Slot), va_P D vwCl (gw 31 κ (xC cI cII κ σ5)) H → va_S (gA 31 κ) s.heap H locs → lv_has ls 4 [(0, .ref (κ 2)), (1, .int y1_43), (2, .int x2_4), (3, .int x3_19)] → W p l e ({ frames := 5, cells := 0, slots := 0, locals := 113 } : Room) s m args below meth c H locs 0 0 (MQ below (QI D cI cII 31 κ (xC cI cII κ σ') r) args s 0 0 (gA 31 κ)) (F0 m 43 ls []) := by
        intro y1_43 hf H locs ls hP hS hl
        rw [hK43] at hf
        obtain ⟨v7, ev7, hf⟩ := letb_w hf
        refine lv_iinc (v := v7) (lv' := [(3, .int v7), (0, .ref (κ 2)), (1, .int y1_43), (2, .int x2_4)]) hx hb dX1_pairsNotApart_43 hl (k := 3) rfl (by rw [ev7]; rfl) (by decide) rfl (fun ls hl => ?_)
        refine lv_goto (tgt := 19) hx hb dX1_pairsNotApart_46 (by decide) ?_
        exact ih19 _ _ _ hf _ _ _ hP hS (lv_sub hl [1, 2, 3, 0] rfl)
      refine lv_icmp_ne (tgt := 43) hx hb dX1_pairsNotApart_37 (by decide) (fun c37 => ?_) (fun c37 => ?_)
      · have hf := iteT c37 hf
        exact J43 _ hf _ _ _ hP hS (lv_sub hl [0, 1, 2, 3] rfl)
      · have hf := iteN c37 hf
        obtain ⟨v8, ev8, hf⟩ := letb_w hf
        refine lv_iinc (v := v8) (lv' := [(1, .int v8), (0, .ref (κ 2)), (2, .int x2_4), (3, .int x3_19)]) hx hb dX1_pairsNotApart_40 hl (k := 1) rfl (by rw [ev8]; rfl) (by decide) rfl (fun ls hl => ?_)
        exact J43 _ hf _ _ _ hP hS (lv_sub hl [1, 0, 2, 3] rfl)

set_option maxRecDepth 100000 in
set_option maxHeartbeats 4000000 in
theorem met_X1_preventedIn (l : Launch) (D : va_G) (cI cII : ClassId) (κ : Nat → Nat) (hκ : Inj 31 κ) (σ : SX) (p1 : Int32) (r : Int32) (σ' : SX) (hf : fn_X1_preventedIn σ p1 = some (r, σ')) : Met l yX1_preventedIn wsX1_preventedIn ({ frames := 4, cells := 0, slots := 0, locals := 89 } : Room) (va_Pc [.ref (κ 2), .int p1] (xP D cI cII κ σ)) (QI D cI cII 31 κ (xC cI cII κ σ') r) 0 0 (gA 31 κ) := by
  refine g_enter (cc := cX1_preventedIn) (maxL := 6) (ret := (some .int)) (by decide) rfl (Nat.le_of_ble_eq_true rfl) ?_
  intro p e s m args below meth c ls S hr hlk _ hB hl
  have S : CallFix p m c cX1_preventedIn 6 s args wsX1_preventedIn RX1 := S
  obtain ⟨hP, hK⟩ := hB
  have hl : lv_has ls 6 [(0, .ref (κ 2)), (1, .int p1)] := hl
  have hS : va_S (gA 31 κ) s.heap s.heap [] := va_S.rf
  have hA : ∀ k, k < 31 → gA 31 κ (κ k) := gA_in
  obtain ⟨hx, hb, hml, hown, hts⟩ := id S
  have hiX1 : ∀ w ∈ u_ws RX1 TX1 4, w ∈ wsX1_preventedIn := by decide +kernel
  unfold fn_X1_preventedIn at hf
  refine lv_iconst (v := 0) hx hb dX1_preventedIn_0 (by decide) ?_
  obtain ⟨v1, ev1, hf⟩ := letb_w hf
  refine lv_nmi ev1 ?_
  refine lv_istore_n (lv' := [(2, .int v1), (0, .ref (κ 2)), (1, .int p1)]) hx hb dX1_preventedIn_1 rfl hl (by decide) rfl (fun ls hl => ?_)
  refine lv_aload_n hx hb dX1_preventedIn_2 rfl (lv_at hl 1 rfl) ?_
  obtain ⟨v3, σ2, hq3, hf⟩ := bind2_w hf
  refine g_calli (va_runV (As := []) (rest := []) S (met_X1_count l D cI cII κ hκ σ v3 σ2 hq3) (cwV 0 S.2.2.2.2 gX1_preventedIn_X1_count rfl rfl rfl (by decide +kernel) ⟨Nat.le_of_ble_eq_true rfl, Nat.le_of_ble_eq_true rfl⟩) (g_preV (N := 4) (T := TX1) hK hP (Nat.le_refl _) (by decide) rfl rfl) rfl rfl hl.1 rfl (lv_room (Nat.le_of_ble_eq_true rfl)) dX1_preventedIn_3 ⟨Nat.le_of_ble_eq_true rfl, Nat.le_of_ble_eq_true rfl⟩) (Nat.le_refl _) hκ hA hP hS (fun j h1 h2 => absurd h2 (Nat.not_lt.mpr h1)) (fun H locs hP hS => ?_)
  obtain ⟨v4, ev4, hf⟩ := letb_w hf
  refine lv_nmi ev4 ?_
  refine lv_istore_n (lv' := [(3, .int v4), (2, .int v1), (0, .ref (κ 2)), (1, .int p1)]) hx hb dX1_preventedIn_6 rfl hl (by decide) rfl (fun ls hl => ?_)
  refine lv_iconst (v := 0) hx hb dX1_preventedIn_7 (by decide) ?_
  obtain ⟨v5, ev5, hf⟩ := letb_w hf
  refine lv_nmi ev5 ?_
  refine lv_istore (lv' := [(4, .int v5), (3, .int v4), (2, .int v1), (0, .ref (κ 2)), (1, .int p1)]) hx hb dX1_preventedIn_8 hl (by decide) rfl (fun ls hl => ?_)
  refine loopF_w (P := fun (g : Int32 → Int32 → Option (Int32 × SX)) => ∀ (x2_10 : Int32) (x4_10 : Int32), g x2_10 x4_10 = some (r, σ') → ∀ (H : Heap) (locs : List Loc) (ls : Array Slot), va_P D vwCl (gw 31 κ (xC cI cII κ σ2)) H → va_S (gA 31 κ) s.heap H locs → lv_has ls 6 [(0, .ref (κ 2)), (1, .int p1), (2, .int x2_10), (3, .int v4), (4, .int x4_10)] → W p l e ({ frames := 4, cells := 0, slots := 0, locals := 89 } : Room) s m args below meth c H locs 0 0 (MQ below (QI D cI cII 31 κ (xC cI cII κ σ') r) args s 0 0 (gA 31 κ)) (F0 m 10 ls [])) (fun _ _ h => by simp at h) ?_ FU _ _ hf _ _ _ hP hS (lv_sub hl [3, 4, 2, 1, 0] rfl)
  intro rec10 ih10 x2_10 x4_10 hf H locs ls hP hS hl
  unfold bd_X1_preventedIn_10 at hf
  refine lv_iload hx hb dX1_preventedIn_10 (lv_at hl 4 rfl) ?_
  refine lv_iload_n hx hb dX1_preventedIn_12 rfl (lv_at hl 3 rfl) ?_
  refine lv_icmp_ge (tgt := 76) hx hb dX1_preventedIn_13 (by decide) (fun c13 => ?_) (fun c13 => ?_)
  · have hf := iteT c13 hf
    refine lv_iload_n hx hb dX1_preventedIn_76 rfl (lv_at hl 2 rfl) ?_
    obtain ⟨h8, h9⟩ := Prod.mk.inj (Option.some.inj hf)
    subst h9
    exact g_iret S hr hlk hK hP hS h8 dX1_preventedIn_77
  · have hf := iteF c13 hf
    refine lv_aload_n hx hb dX1_preventedIn_16 rfl (lv_at hl 0 rfl) ?_
    refine g_get (q := 2) (ci := 1) (k := 0) (ref := RX1) (C := RX1) (T := TX1) (N := 4) (index := 9) (v := .ref (κ 1)) S hK hP hiX1 (by decide) rfl rfl (by decide) rfl (by decide +kernel) rfl dX1_preventedIn_17 ?_
    refine lv_aload_n hx hb dX1_preventedIn_20 rfl (lv_at hl 0 rfl) ?_
    refine g_get (q := 2) (ci := 1) (k := 1) (ref := RX1) (C := RX1) (T := TX1) (N := 4) (index := 15) (v := .ref (κ 8)) S hK hP hiX1 (by decide) rfl rfl (by decide) rfl (by decide +kernel) rfl dX1_preventedIn_21 ?_
    refine lv_iload hx hb dX1_preventedIn_24 (lv_at hl 4 rfl) ?_
    obtain ⟨v6, hv6, hf⟩ := obw hf
    refine g_ald (a := 8) (len := 4094) S hK hP (by decide) (xC_arr (by decide) rfl) hv6 dX1_preventedIn_26 ?_
    refine lv_iload_n hx hb dX1_preventedIn_27 rfl (lv_at hl 1 rfl) ?_
    obtain ⟨v7, hq28, hf⟩ := obw hf
    refine g_calli (va_runV (As := [.int v6, .int p1]) (rest := []) S (met_X2_way l D cI cII κ hκ σ2 v6 p1 v7 hq28) (cwV 2 S.2.2.2.2 gX1_preventedIn_X2_way rfl rfl rfl (by decide +kernel) ⟨Nat.le_of_ble_eq_true rfl, Nat.le_of_ble_eq_true rfl⟩) (g_preV (N := 5) (T := TX2) hK hP (Nat.le_refl _) (by decide) rfl rfl) rfl rfl hl.1 rfl (lv_room (Nat.le_of_ble_eq_true rfl)) dX1_preventedIn_28 ⟨Nat.le_of_ble_eq_true rfl, Nat.le_of_ble_eq_true rfl⟩) (Nat.le_refl _) hκ hA hP hS (fun j h1 h2 => absurd h2 (Nat.not_lt.mpr h1)) (fun H locs hP hS => ?_)
    obtain ⟨v8, ev8, hf⟩ := letb_w hf
    refine lv_nmi ev8 ?_
    refine lv_istore (lv' := [(5, .int v8), (0, .ref (κ 2)), (1, .int p1), (2, .int x2_10), (3, .int v4), (4, .int x4_10)]) hx hb dX1_preventedIn_31 hl (by decide) rfl (fun ls hl => ?_)
    refine lv_iload hx hb dX1_preventedIn_33 (lv_at hl 0 rfl) ?_
    refine lv_iconst (v := 2) hx hb dX1_preventedIn_35 (by decide) ?_
    obtain ⟨K70, hK70, hf⟩ := letb_w hf
    have J70 : ∀ (y2_70 : Int32), K70 y2_70 = some (r, σ') → ∀ (H : Heap) (locs : List Loc) (ls : Array Slot), va_P D vwCl (gw 31 κ (xC cI cII κ σ2)) H → va_S (gA 31 κ) s.heap H locs → lv_has ls 6 [(0, .ref (κ 2)), (1, .int p1), (2, .int y2_70), (3, .int v4), (4, .int x4_10)] → W p l e ({ frames := 4, cells := 0, slots := 0, locals := 89 } : Room) s m args below meth c H locs 0 0 (MQ below (QI D cI cII 31 κ (xC cI cII κ σ') r) args s 0 0 (gA 31 κ)) (F0 m 70 ls []) := by
      intro y2_70 hf H locs ls hP hS hl
      rw [hK70] at hf
      obtain ⟨v9, ev9, hf⟩ := letb_w hf
      refine lv_iinc (v := v9) (lv' := [(4, .int v9), (0, .ref (κ 2)), (1, .int p1), (2, .int y2_70), (3, .int v4)]) hx hb dX1_preventedIn_70 hl (k := 4) rfl (by rw [ev9]; rfl) (by decide) rfl (fun ls hl => ?_)
      refine lv_goto (tgt := 10) hx hb dX1_preventedIn_73 (by decide) ?_
      exact ih10 _ _ hf _ _ _ hP hS (lv_sub hl [1, 2, 3, 4, 0] rfl)
    refine lv_icmp_ne (tgt := 54) hx hb dX1_preventedIn_36 (by decide) (fun c36 => ?_) (fun c36 => ?_)
    · have hf := iteT c36 hf
      refine lv_iload hx hb dX1_preventedIn_54 (lv_at hl 0 rfl) ?_
      refine lv_iconst (v := 1) hx hb dX1_preventedIn_56 (by decide) ?_
      refine lv_icmp_ne (tgt := 70) hx hb dX1_preventedIn_57 (by decide) (fun c57 => ?_) (fun c57 => ?_)
      · have hf := iteT c57 hf
        exact J70 _ hf _ _ _ hP hS (lv_sub hl [1, 2, 3, 4, 5] rfl)
      · have hf := iteN c57 hf
        refine lv_iload_n hx hb dX1_preventedIn_60 rfl (lv_at hl 3 rfl) ?_
        refine lv_aload_n hx hb dX1_preventedIn_61 rfl (lv_at hl 1 rfl) ?_
        refine g_get (q := 2) (ci := 1) (k := 1) (ref := RX1) (C := RX1) (T := TX1) (N := 4) (index := 15) (v := .ref (κ 8)) S hK hP hiX1 (by decide) rfl rfl (by decide) rfl (by decide +kernel) rfl dX1_preventedIn_62 ?_
        refine lv_iload hx hb dX1_preventedIn_65 (lv_at hl 5 rfl) ?_
        obtain ⟨v10, hv10, hf⟩ := obw hf
        refine g_ald (a := 8) (len := 4094) S hK hP (by decide) (xC_arr (by decide) rfl) hv10 dX1_preventedIn_67 ?_
        refine lv_ior hx hb dX1_preventedIn_68 ?_
        obtain ⟨v11, ev11, hf⟩ := letb_w hf
        refine lv_nmi ev11 ?_
        refine lv_istore_n (lv' := [(2, .int v11), (5, .int v8), (0, .ref (κ 2)), (1, .int p1), (3, .int v4), (4, .int x4_10)]) hx hb dX1_preventedIn_69 rfl hl (by decide) rfl (fun ls hl => ?_)
        exact J70 _ hf _ _ _ hP hS (lv_sub hl [2, 3, 0, 4, 5] rfl)
    · have hf := iteN c36 hf
      refine lv_iload_n hx hb dX1_preventedIn_39 rfl (lv_at hl 3 rfl) ?_
      refine lv_aload_n hx hb dX1_preventedIn_40 rfl (lv_at hl 1 rfl) ?_
      refine g_get (q := 2) (ci := 1) (k := 1) (ref := RX1) (C := RX1) (T := TX1) (N := 4) (index := 15) (v := .ref (κ 8)) S hK hP hiX1 (by decide) rfl rfl (by decide) rfl (by decide +kernel) rfl dX1_preventedIn_41 ?_
      refine lv_iload hx hb dX1_preventedIn_44 (lv_at hl 5 rfl) ?_
      obtain ⟨v12, hv12, hf⟩ := obw hf
      refine g_ald (a := 8) (len := 4094) S hK hP (by decide) (xC_arr (by decide) rfl) hv12 dX1_preventedIn_46 ?_
      refine lv_iconst (v := -1) hx hb dX1_preventedIn_47 (by decide) ?_
      refine lv_ixor hx hb dX1_preventedIn_48 ?_
      refine lv_ior hx hb dX1_preventedIn_49 ?_
      obtain ⟨v13, ev13, hf⟩ := letb_w hf
      refine lv_nmi ev13 ?_
      refine lv_istore_n (lv' := [(2, .int v13), (5, .int v8), (0, .ref (κ 2)), (1, .int p1), (3, .int v4), (4, .int x4_10)]) hx hb dX1_preventedIn_50 rfl hl (by decide) rfl (fun ls hl => ?_)
      refine lv_goto (tgt := 70) hx hb dX1_preventedIn_51 (by decide) ?_
      exact J70 _ hf _ _ _ hP hS (lv_sub hl [2, 3, 0, 4, 5] rfl)

set_option maxRecDepth 100000 in
set_option maxHeartbeats 4000000 in
theorem met_X1_pairsNotPrevented (l : Launch) (D : va_G) (cI cII : ClassId) (κ : Nat → Nat) (hκ : Inj 31 κ) (σ : SX)  (r : Int32) (σ' : SX) (hf : fn_X1_pairsNotPrevented σ  = some (r, σ')) : Met l yX1_pairsNotPrevented wsX1_pairsNotPrevented ({ frames := 5, cells := 0, slots := 0, locals := 114 } : Room) (va_Pc [.ref (κ 2)] (xP D cI cII κ σ)) (QI D cI cII 31 κ (xC cI cII κ σ') r) 0 0 (gA 31 κ) := by
  refine g_enter (cc := cX1_pairsNotPrevented) (maxL := 3) (ret := (some .int)) (by decide) rfl (Nat.le_of_ble_eq_true rfl) ?_
  intro p e s m args below meth c ls S hr hlk _ hB hl
  have S : CallFix p m c cX1_pairsNotPrevented 3 s args wsX1_pairsNotPrevented RX1 := S
  obtain ⟨hP, hK⟩ := hB
  have hl : lv_has ls 3 [(0, .ref (κ 2))] := hl
  have hS : va_S (gA 31 κ) s.heap s.heap [] := va_S.rf
  have hA : ∀ k, k < 31 → gA 31 κ (κ k) := gA_in
  obtain ⟨hx, hb, hml, hown, hts⟩ := id S
  have hiX1 : ∀ w ∈ u_ws RX1 TX1 4, w ∈ wsX1_pairsNotPrevented := by decide +kernel
  unfold fn_X1_pairsNotPrevented at hf
  refine lv_iconst (v := 0) hx hb dX1_pairsNotPrevented_0 (by decide) ?_
  obtain ⟨v1, ev1, hf⟩ := letb_w hf
  refine lv_nmi ev1 ?_
  refine lv_istore_n (lv' := [(1, .int v1), (0, .ref (κ 2))]) hx hb dX1_pairsNotPrevented_1 rfl hl (by decide) rfl (fun ls hl => ?_)
  refine lv_iconst (v := 0) hx hb dX1_pairsNotPrevented_2 (by decide) ?_
  obtain ⟨v2, ev2, hf⟩ := letb_w hf
  refine lv_nmi ev2 ?_
  refine lv_istore_n (lv' := [(2, .int v2), (1, .int v1), (0, .ref (κ 2))]) hx hb dX1_pairsNotPrevented_3 rfl hl (by decide) rfl (fun ls hl => ?_)
  refine loopF_w (P := fun (g : Int32 → Int32 → SX → Option (Int32 × SX)) => ∀ (x1_4 : Int32) (x2_4 : Int32) (σ_4 : SX), g x1_4 x2_4 σ_4 = some (r, σ') → ∀ (H : Heap) (locs : List Loc) (ls : Array Slot), va_P D vwCl (gw 31 κ (xC cI cII κ σ_4)) H → va_S (gA 31 κ) s.heap H locs → lv_has ls 3 [(0, .ref (κ 2)), (1, .int x1_4), (2, .int x2_4)] → W p l e ({ frames := 5, cells := 0, slots := 0, locals := 114 } : Room) s m args below meth c H locs 0 0 (MQ below (QI D cI cII 31 κ (xC cI cII κ σ') r) args s 0 0 (gA 31 κ)) (F0 m 4 ls [])) (fun _ _ _ h => by simp at h) ?_ FU _ _ _ hf _ _ _ hP hS (lv_sub hl [2, 1, 0] rfl)
  intro rec4 ih4 x1_4 x2_4 σ_4 hf H locs ls hP hS hl
  unfold bd_X1_pairsNotPrevented_4 at hf
  refine lv_iload_n hx hb dX1_pairsNotPrevented_4 rfl (lv_at hl 2 rfl) ?_
  refine lv_bipush (v := 6) hx hb dX1_pairsNotPrevented_5 (by decide) ?_
  refine lv_icmp_ge (tgt := 38) hx hb dX1_pairsNotPrevented_7 (by decide) (fun c7 => ?_) (fun c7 => ?_)
  · have hf := iteT c7 hf
    refine lv_iload_n hx hb dX1_pairsNotPrevented_38 rfl (lv_at hl 1 rfl) ?_
    obtain ⟨h8, h9⟩ := Prod.mk.inj (Option.some.inj hf)
    subst h9
    exact g_iret S hr hlk hK hP hS h8 dX1_pairsNotPrevented_39
  · have hf := iteF c7 hf
    refine lv_iload_n hx hb dX1_pairsNotPrevented_10 rfl (lv_at hl 1 rfl) ?_
    refine lv_aload_n hx hb dX1_pairsNotPrevented_11 rfl (lv_at hl 0 rfl) ?_
    refine g_get (q := 2) (ci := 1) (k := 0) (ref := RX1) (C := RX1) (T := TX1) (N := 4) (index := 9) (v := .ref (κ 1)) S hK hP hiX1 (by decide) rfl rfl (by decide) rfl (by decide +kernel) rfl dX1_pairsNotPrevented_12 ?_
    refine lv_iload_n hx hb dX1_pairsNotPrevented_15 rfl (lv_at hl 2 rfl) ?_
    obtain ⟨v3, hq16, hf⟩ := obw hf
    refine g_calli (va_runV (As := [.int x2_4]) (rest := [.int x1_4]) S (met_X2_stopsOf l D cI cII κ hκ σ_4 x2_4 v3 hq16) (cwV 1 S.2.2.2.2 gX1_pairsNotPrevented_X2_stopsOf rfl rfl rfl (by decide +kernel) ⟨Nat.le_of_ble_eq_true rfl, Nat.le_of_ble_eq_true rfl⟩) (g_preV (N := 5) (T := TX2) hK hP (Nat.le_refl _) (by decide) rfl rfl) rfl rfl hl.1 rfl (lv_room (Nat.le_of_ble_eq_true rfl)) dX1_pairsNotPrevented_16 ⟨Nat.le_of_ble_eq_true rfl, Nat.le_of_ble_eq_true rfl⟩) (Nat.le_refl _) hκ hA hP hS (fun j h1 h2 => absurd h2 (Nat.not_lt.mpr h1)) (fun H locs hP hS => ?_)
    refine lv_aload_n hx hb dX1_pairsNotPrevented_19 rfl (lv_at hl 0 rfl) ?_
    refine lv_iload_n hx hb dX1_pairsNotPrevented_20 rfl (lv_at hl 2 rfl) ?_
    obtain ⟨v5, σ4, hq21, hf⟩ := bind2_w hf
    refine g_calli (va_runV (As := [.int x2_4]) (rest := [.int v3, .int x1_4]) S (met_X1_preventedIn l D cI cII κ hκ σ_4 x2_4 v5 σ4 hq21) (cwV 1 S.2.2.2.2 gX1_pairsNotPrevented_X1_preventedIn rfl rfl rfl (by decide +kernel) ⟨Nat.le_of_ble_eq_true rfl, Nat.le_of_ble_eq_true rfl⟩) (g_preV (N := 4) (T := TX1) hK hP (Nat.le_refl _) (by decide) rfl rfl) rfl rfl hl.1 rfl (lv_room (Nat.le_of_ble_eq_true rfl)) dX1_pairsNotPrevented_21 ⟨Nat.le_of_ble_eq_true rfl, Nat.le_of_ble_eq_true rfl⟩) (Nat.le_refl _) hκ hA hP hS (fun j h1 h2 => absurd h2 (Nat.not_lt.mpr h1)) (fun H locs hP hS => ?_)
    refine lv_iconst (v := -1) hx hb dX1_pairsNotPrevented_24 (by decide) ?_
    refine lv_ixor hx hb dX1_pairsNotPrevented_25 ?_
    refine lv_iand hx hb dX1_pairsNotPrevented_26 ?_
    obtain ⟨v6, hq27, hf⟩ := obw hf
    refine g_calli (va_runS (As := [.int ((v3 &&& (v5 ^^^ (-1))))]) (rest := [.int x1_4]) S (met_J6_bitCount l D cI cII 31 κ (xC cI cII κ σ4) ((v3 &&& (v5 ^^^ (-1)))) v6 hq27) (va_cwS 1 S.2.2.2.2 gX1_pairsNotPrevented_J6_bitCount_0f7a4 rfl rfl rfl (by decide +kernel) ⟨Nat.le_of_ble_eq_true rfl, Nat.le_of_ble_eq_true rfl⟩) (g_preS hK hP (Nat.le_refl _)) rfl rfl hl.1 rfl (lv_room (Nat.le_of_ble_eq_true rfl)) dX1_pairsNotPrevented_27 ⟨Nat.le_of_ble_eq_true rfl, Nat.le_of_ble_eq_true rfl⟩) (Nat.le_refl _) hκ hA hP hS (fun j h1 h2 => absurd h2 (Nat.not_lt.mpr h1)) (fun H locs hP hS => ?_)
    refine lv_iadd hx hb dX1_pairsNotPrevented_30 ?_
    obtain ⟨v7, ev7, hf⟩ := letb_w hf
    refine lv_nmi ev7 ?_
    refine lv_istore_n (lv' := [(1, .int v7), (0, .ref (κ 2)), (2, .int x2_4)]) hx hb dX1_pairsNotPrevented_31 rfl hl (by decide) rfl (fun ls hl => ?_)
    obtain ⟨v8, ev8, hf⟩ := letb_w hf
    refine lv_iinc (v := v8) (lv' := [(2, .int v8), (1, .int v7), (0, .ref (κ 2))]) hx hb dX1_pairsNotPrevented_32 hl (k := 2) rfl (by rw [ev8]; rfl) (by decide) rfl (fun ls hl => ?_)
    refine lv_goto (tgt := 4) hx hb dX1_pairsNotPrevented_35 (by decide) ?_
    exact ih4 _ _ _ hf _ _ _ hP hS (lv_sub hl [2, 1, 0] rfl)
