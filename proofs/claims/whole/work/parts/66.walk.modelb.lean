/-! by wip/whole/gen.py: walks: the machine computes the pure functions -/
set_option maxRecDepth 100000 in
set_option maxHeartbeats 4000000 in
theorem met_X4_mixed (l : Launch) (D : va_G) (cI cII : ClassId) (κ : Nat → Nat) (hκ : Inj 5 κ) (σ : SX) (p1 : Int32) (r : Int32) (hf : fn_X4_mixed σ p1 = some r) : Met l yX4_mixed wsX4_mixed ({ frames := 2, cells := 0, slots := 0, locals := 49 } : Room) (va_Pc [.ref (κ 0), .int p1] (mP D cI cII κ σ)) (QI D cI cII 5 κ (mC cI cII κ σ) r) 0 0 (gA 5 κ) := by
  refine g_enter (cc := cX4_mixed) (maxL := 3) (ret := (some .int)) (by decide) rfl (Nat.le_of_ble_eq_true rfl) ?_
  intro p e s m args below meth c ls S hr hlk _ hB hl
  have S : CallFix p m c cX4_mixed 3 s args wsX4_mixed RX4 := S
  obtain ⟨hP, hK⟩ := hB
  have hl : lv_has ls 3 [(0, .ref (κ 0)), (1, .int p1)] := hl
  have hS : va_S (gA 5 κ) s.heap s.heap [] := va_S.rf
  have hA : ∀ k, k < 5 → gA 5 κ (κ k) := gA_in
  obtain ⟨hx, hb, hml, hown, hts⟩ := id S
  unfold fn_X4_mixed at hf
  refine lv_iconst (v := 0) hx hb dX4_mixed_0 (by decide) ?_
  obtain ⟨v1, ev1, hf⟩ := letb_w hf
  refine lv_nmi ev1 ?_
  refine lv_istore_n (lv' := [(2, .int v1), (0, .ref (κ 0)), (1, .int p1)]) hx hb dX4_mixed_1 rfl hl (by decide) rfl (fun ls hl => ?_)
  refine loopF_w (P := fun (g : Int32 → Option (Int32)) => ∀ (x2_2 : Int32), g x2_2 = some r → ∀ (H : Heap) (locs : List Loc) (ls : Array Slot), va_P D vwCl (gw 5 κ (mC cI cII κ σ)) H → va_S (gA 5 κ) s.heap H locs → lv_has ls 3 [(0, .ref (κ 0)), (1, .int p1), (2, .int x2_2)] → W p l e ({ frames := 2, cells := 0, slots := 0, locals := 49 } : Room) s m args below meth c H locs 0 0 (MQ below (QI D cI cII 5 κ (mC cI cII κ σ) r) args s 0 0 (gA 5 κ)) (F0 m 2 ls [])) (fun _ h => by simp at h) ?_ FU _ hf _ _ _ hP hS (lv_sub hl [1, 2, 0] rfl)
  intro rec2 ih2 x2_2 hf H locs ls hP hS hl
  unfold bd_X4_mixed_2 at hf
  refine lv_iload_n hx hb dX4_mixed_2 rfl (lv_at hl 2 rfl) ?_
  refine lv_bipush (v := 6) hx hb dX4_mixed_3 (by decide) ?_
  refine lv_icmp_ge (tgt := 26) hx hb dX4_mixed_5 (by decide) (fun c5 => ?_) (fun c5 => ?_)
  · have hf := iteT c5 hf
    refine lv_iconst (v := -1) hx hb dX4_mixed_26 (by decide) ?_
    exact g_iret S hr hlk hK hP hS (Option.some.inj hf) dX4_mixed_27
  · have hf := iteF c5 hf
    refine lv_aload_n hx hb dX4_mixed_8 rfl (lv_at hl 0 rfl) ?_
    refine lv_iload_n hx hb dX4_mixed_9 rfl (lv_at hl 1 rfl) ?_
    refine lv_iload_n hx hb dX4_mixed_10 rfl (lv_at hl 2 rfl) ?_
    obtain ⟨v2, hq11, hf⟩ := obw hf
    refine g_calli (va_runV (As := [.int p1, .int x2_2]) (rest := []) S (met_X4_way l D cI cII κ hκ σ p1 x2_2 v2 hq11) (cwV 2 S.2.2.2.2 gX4_mixed_X4_way rfl rfl rfl (by decide +kernel) ⟨Nat.le_of_ble_eq_true rfl, Nat.le_of_ble_eq_true rfl⟩) (g_preV (N := 12) (T := TX4) hK hP (Nat.le_refl _) (by decide) rfl rfl) rfl rfl hl.1 rfl (lv_room (Nat.le_of_ble_eq_true rfl)) dX4_mixed_11 ⟨Nat.le_of_ble_eq_true rfl, Nat.le_of_ble_eq_true rfl⟩) (Nat.le_refl _) hκ hA hP hS (fun j h1 h2 => absurd h2 (Nat.not_lt.mpr h1)) (fun H locs hP hS => ?_)
    refine lv_iconst (v := 3) hx hb dX4_mixed_14 (by decide) ?_
    refine lv_icmp_ne (tgt := 20) hx hb dX4_mixed_15 (by decide) (fun c15 => ?_) (fun c15 => ?_)
    · have hf := iteT c15 hf
      obtain ⟨v3, ev3, hf⟩ := letb_w hf
      refine lv_iinc (v := v3) (lv' := [(2, .int v3), (0, .ref (κ 0)), (1, .int p1)]) hx hb dX4_mixed_20 hl (k := 2) rfl (by rw [ev3]; rfl) (by decide) rfl (fun ls hl => ?_)
      refine lv_goto (tgt := 2) hx hb dX4_mixed_23 (by decide) ?_
      exact ih2 _ hf _ _ _ hP hS (lv_sub hl [1, 2, 0] rfl)
    · have hf := iteN c15 hf
      refine lv_iload_n hx hb dX4_mixed_18 rfl (lv_at hl 2 rfl) ?_
      exact g_iret S hr hlk hK hP hS (Option.some.inj hf) dX4_mixed_19

set_option maxRecDepth 100000 in
set_option maxHeartbeats 4000000 in
theorem met_X4_isProper (l : Launch) (D : va_G) (cI cII : ClassId) (κ : Nat → Nat) (hκ : Inj 5 κ) (σ : SX) (p1 : Int32) (r : Int32) (hf : fn_X4_isProper σ p1 = some r) : Met l yX4_isProper wsX4_isProper ({ frames := 3, cells := 0, slots := 0, locals := 71 } : Room) (va_Pc [.ref (κ 0), .int p1] (mP D cI cII κ σ)) (QI D cI cII 5 κ (mC cI cII κ σ) r) 0 0 (gA 5 κ) := by
  refine g_enter (cc := cX4_isProper) (maxL := 2) (ret := (some .boolean)) (by decide) rfl (Nat.le_of_ble_eq_true rfl) ?_
  intro p e s m args below meth c ls S hr hlk _ hB hl
  have S : CallFix p m c cX4_isProper 2 s args wsX4_isProper RX4 := S
  obtain ⟨hP, hK⟩ := hB
  have hl : lv_has ls 2 [(0, .ref (κ 0)), (1, .int p1)] := hl
  have hS : va_S (gA 5 κ) s.heap s.heap [] := va_S.rf
  have hA : ∀ k, k < 5 → gA 5 κ (κ k) := gA_in
  obtain ⟨hx, hb, hml, hown, hts⟩ := id S
  have hiX4 : ∀ w ∈ u_ws RX4 TX4 12, w ∈ wsX4_isProper := by decide +kernel
  unfold fn_X4_isProper at hf
  refine lv_iload_n hx hb dX4_isProper_0 rfl (lv_at hl 1 rfl) ?_
  obtain ⟨K29, hK29, hf⟩ := letb_w hf
  have J29 : ∀ (_u : Unit), K29 _u = some r → ∀ (H : Heap) (locs : List Loc) (ls : Array Slot), va_P D vwCl (gw 5 κ (mC cI cII κ σ)) H → va_S (gA 5 κ) s.heap H locs → lv_has ls 2 [] → W p l e ({ frames := 3, cells := 0, slots := 0, locals := 71 } : Room) s m args below meth c H locs 0 0 (MQ below (QI D cI cII 5 κ (mC cI cII κ σ) r) args s 0 0 (gA 5 κ)) (F0 m 29 ls []) := by
    intro _u hf H locs ls hP hS hl
    rw [hK29] at hf
    refine lv_iconst (v := 0) hx hb dX4_isProper_29 (by decide) ?_
    exact g_zret S hr hlk hK hP hS hf dX4_isProper_30
  refine lv_if_le (tgt := 29) hx hb dX4_isProper_1 (by decide) (fun c1 => ?_) (fun c1 => ?_)
  · have hf := iteT c1 hf
    exact J29 _ hf _ _ _ hP hS (lv_sub hl [] rfl)
  · have hf := iteF c1 hf
    refine lv_iload_n hx hb dX4_isProper_4 rfl (lv_at hl 1 rfl) ?_
    refine lv_iconst (v := 1) hx hb dX4_isProper_5 (by decide) ?_
    refine lv_aload_n hx hb dX4_isProper_6 rfl (lv_at hl 0 rfl) ?_
    refine g_get (q := 0) (ci := 4) (k := 1) (ref := RX4) (C := RX4) (T := TX4) (N := 12) (index := 9) (v := .int ((σ.1 1))) S hK hP hiX4 (by decide) rfl rfl (by decide) rfl (by decide +kernel) rfl dX4_isProper_7 ?_
    refine lv_ishl hx hb dX4_isProper_10 ?_
    refine lv_iconst (v := 1) hx hb dX4_isProper_11 (by decide) ?_
    refine lv_isub hx hb dX4_isProper_12 ?_
    refine lv_icmp_ge (tgt := 29) hx hb dX4_isProper_13 (by decide) (fun c13 => ?_) (fun c13 => ?_)
    · have hf := iteT c13 hf
      exact J29 _ hf _ _ _ hP hS (lv_sub hl [] rfl)
    · have hf := iteF c13 hf
      refine lv_aload_n hx hb dX4_isProper_16 rfl (lv_at hl 0 rfl) ?_
      refine lv_iload_n hx hb dX4_isProper_17 rfl (lv_at hl 1 rfl) ?_
      obtain ⟨v1, hq18, hf⟩ := obw hf
      refine g_calli (va_runV (As := [.int p1]) (rest := []) S (met_X4_mixed l D cI cII κ hκ σ p1 v1 hq18) (cwV 1 S.2.2.2.2 gX4_isProper_X4_mixed rfl rfl rfl (by decide +kernel) ⟨Nat.le_of_ble_eq_true rfl, Nat.le_of_ble_eq_true rfl⟩) (g_preV (N := 12) (T := TX4) hK hP (Nat.le_refl _) (by decide) rfl rfl) rfl rfl hl.1 rfl (lv_room (Nat.le_of_ble_eq_true rfl)) dX4_isProper_18 ⟨Nat.le_of_ble_eq_true rfl, Nat.le_of_ble_eq_true rfl⟩) (Nat.le_refl _) hκ hA hP hS (fun j h1 h2 => absurd h2 (Nat.not_lt.mpr h1)) (fun H locs hP hS => ?_)
      refine lv_iconst (v := -1) hx hb dX4_isProper_21 (by decide) ?_
      refine lv_icmp_ne (tgt := 29) hx hb dX4_isProper_22 (by decide) (fun c22 => ?_) (fun c22 => ?_)
      · have hf := iteT c22 hf
        exact J29 _ hf _ _ _ hP hS (lv_sub hl [] rfl)
      · have hf := iteN c22 hf
        refine lv_iconst (v := 1) hx hb dX4_isProper_25 (by decide) ?_
        refine lv_goto (tgt := 30) hx hb dX4_isProper_26 (by decide) ?_
        exact g_zret S hr hlk hK hP hS hf dX4_isProper_30

set_option maxRecDepth 100000 in
set_option maxHeartbeats 4000000 in
theorem met_X4_know (l : Launch) (D : va_G) (cI cII : ClassId) (κ : Nat → Nat) (hκ : Inj 5 κ) (σ : SX)  (σ' : SX) (hf : fn_X4_know σ  = some σ') : Met l yX4_know wsX4_know ({ frames := 4, cells := 0, slots := 0, locals := 92 } : Room) (va_Pc [.ref (κ 0)] (mP D cI cII κ σ)) (QV D cI cII 5 κ (mC cI cII κ σ')) 0 0 (gA 5 κ) := by
  refine g_enter (cc := cX4_know) (maxL := 2) (ret := none) (by decide) rfl (Nat.le_of_ble_eq_true rfl) ?_
  intro p e s m args below meth c ls S hr hlk _ hB hl
  have S : CallFix p m c cX4_know 2 s args wsX4_know RX4 := S
  obtain ⟨hP, hK⟩ := hB
  have hl : lv_has ls 2 [(0, .ref (κ 0))] := hl
  have hS : va_S (gA 5 κ) s.heap s.heap [] := va_S.rf
  have hA : ∀ k, k < 5 → gA 5 κ (κ k) := gA_in
  obtain ⟨hx, hb, hml, hown, hts⟩ := id S
  have hiX4 : ∀ w ∈ u_ws RX4 TX4 12, w ∈ wsX4_know := by decide +kernel
  unfold fn_X4_know at hf
  refine lv_aload_n hx hb dX4_know_0 rfl (lv_at hl 0 rfl) ?_
  refine g_get (q := 0) (ci := 4) (k := 3) (ref := RX4) (C := RX4) (T := TX4) (N := 12) (index := 29) (v := .int ((σ.1 2))) S hK hP hiX4 (by decide) rfl rfl (by decide) rfl (by decide +kernel) rfl dX4_know_1 ?_
  refine lv_if_eq (tgt := 8) hx hb dX4_know_4 (by decide) (fun c4 => ?_) (fun c4 => ?_)
  · have hf := iteT c4 hf
    refine lv_aload_n hx hb dX4_know_8 rfl (lv_at hl 0 rfl) ?_
    refine lv_iconst (v := 1) hx hb dX4_know_9 (by decide) ?_
    obtain ⟨σ1, eσ1, hf⟩ := letb_w hf
    refine g_put (q := 0) (ci := 4) (k := 3) (ref := RX4) (C := RX4) (T := TX4) (N := 12) (index := 29) (ty := .boolean) (f' := (mC cI cII κ σ1)) S hK hP hκ hA hS hiX4 tyX4_ok nmX4 (by decide) rfl rfl (by decide) rfl (by decide +kernel) rfl (by decide +kernel) rfl rfl (Nat.le_of_ble_eq_true rfl) (fun j _ => by rw [eσ1]; exact mC_p2 j) dX4_know_10 (fun H locs hP hS => ?_)
    refine lv_aload_n hx hb dX4_know_13 rfl (lv_at hl 0 rfl) ?_
    refine lv_iconst (v := 0) hx hb dX4_know_14 (by decide) ?_
    obtain ⟨σ2, eσ2, hf⟩ := letb_w hf
    refine g_put (q := 0) (ci := 4) (k := 4) (ref := RX4) (C := RX4) (T := TX4) (N := 12) (index := 67) (ty := .int) (f' := (mC cI cII κ σ2)) S hK hP hκ hA hS hiX4 tyX4_ok nmX4 (by decide) rfl rfl (by decide) rfl (by decide +kernel) rfl (by decide +kernel) rfl rfl (Nat.le_of_ble_eq_true rfl) (fun j _ => by rw [eσ2]; exact mC_p3 j) dX4_know_15 (fun H locs hP hS => ?_)
    refine lv_iconst (v := 0) hx hb dX4_know_18 (by decide) ?_
    obtain ⟨v3, ev3, hf⟩ := letb_w hf
    refine lv_nmi ev3 ?_
    refine lv_istore_n (lv' := [(1, .int v3), (0, .ref (κ 0))]) hx hb dX4_know_19 rfl hl (by decide) rfl (fun ls hl => ?_)
    refine loopF_w (P := fun (g : Int32 → SX → Option (SX)) => ∀ (x1_20 : Int32) (σ_20 : SX), g x1_20 σ_20 = some σ' → ∀ (H : Heap) (locs : List Loc) (ls : Array Slot), va_P D vwCl (gw 5 κ (mC cI cII κ σ_20)) H → va_S (gA 5 κ) s.heap H locs → lv_has ls 2 [(0, .ref (κ 0)), (1, .int x1_20)] → W p l e ({ frames := 4, cells := 0, slots := 0, locals := 92 } : Room) s m args below meth c H locs 0 0 (MQ below (QV D cI cII 5 κ (mC cI cII κ σ')) args s 0 0 (gA 5 κ)) (F0 m 20 ls [])) (fun _ _ h => by simp at h) ?_ FU _ _ hf _ _ _ hP hS (lv_sub hl [1, 0] rfl)
    intro rec20 ih20 x1_20 σ_20 hf H locs ls hP hS hl
    unfold bd_X4_know_20 at hf
    refine lv_iload_n hx hb dX4_know_20 rfl (lv_at hl 1 rfl) ?_
    refine lv_iconst (v := 1) hx hb dX4_know_21 (by decide) ?_
    refine lv_aload_n hx hb dX4_know_22 rfl (lv_at hl 0 rfl) ?_
    refine g_get (q := 0) (ci := 4) (k := 1) (ref := RX4) (C := RX4) (T := TX4) (N := 12) (index := 9) (v := .int ((σ_20.1 1))) S hK hP hiX4 (by decide) rfl rfl (by decide) rfl (by decide +kernel) rfl dX4_know_23 ?_
    refine lv_ishl hx hb dX4_know_26 ?_
    refine lv_icmp_ge (tgt := 67) hx hb dX4_know_27 (by decide) (fun c27 => ?_) (fun c27 => ?_)
    · have hf := iteT c27 hf
      obtain rfl := Option.some.inj hf
      exact g_vret S hr hlk hK hP hS dX4_know_67
    · have hf := iteF c27 hf
      refine lv_aload_n hx hb dX4_know_30 rfl (lv_at hl 0 rfl) ?_
      refine lv_iload_n hx hb dX4_know_31 rfl (lv_at hl 1 rfl) ?_
      obtain ⟨v4, hq32, hf⟩ := obw hf
      refine g_calli (va_runV (As := [.int x1_20]) (rest := []) S (met_X4_isProper l D cI cII κ hκ σ_20 x1_20 v4 hq32) (cwV 1 S.2.2.2.2 gX4_know_X4_isProper rfl rfl rfl (by decide +kernel) ⟨Nat.le_of_ble_eq_true rfl, Nat.le_of_ble_eq_true rfl⟩) (g_preV (N := 12) (T := TX4) hK hP (Nat.le_refl _) (by decide) rfl rfl) rfl rfl hl.1 rfl (lv_room (Nat.le_of_ble_eq_true rfl)) dX4_know_32 ⟨Nat.le_of_ble_eq_true rfl, Nat.le_of_ble_eq_true rfl⟩) (Nat.le_refl _) hκ hA hP hS (fun j h1 h2 => absurd h2 (Nat.not_lt.mpr h1)) (fun H locs hP hS => ?_)
      obtain ⟨K61, hK61, hf⟩ := letb_w hf
      have J61 : ∀ (τ_61 : SX), K61 τ_61 = some σ' → ∀ (H : Heap) (locs : List Loc) (ls : Array Slot), va_P D vwCl (gw 5 κ (mC cI cII κ τ_61)) H → va_S (gA 5 κ) s.heap H locs → lv_has ls 2 [(0, .ref (κ 0)), (1, .int x1_20)] → W p l e ({ frames := 4, cells := 0, slots := 0, locals := 92 } : Room) s m args below meth c H locs 0 0 (MQ below (QV D cI cII 5 κ (mC cI cII κ σ')) args s 0 0 (gA 5 κ)) (F0 m 61 ls []) := by
        intro τ_61 hf H locs ls hP hS hl
        rw [hK61] at hf
        obtain ⟨v5, ev5, hf⟩ := letb_w hf
        refine lv_iinc (v := v5) (lv' := [(1, .int v5), (0, .ref (κ 0))]) hx hb dX4_know_61 hl (k := 1) rfl (by rw [ev5]; rfl) (by decide) rfl (fun ls hl => ?_)
        refine lv_goto (tgt := 20) hx hb dX4_know_64 (by decide) ?_
        exact ih20 _ _ hf _ _ _ hP hS (lv_sub hl [1, 0] rfl)
      refine lv_if_ne (tgt := 41) hx hb dX4_know_35 (by decide) (fun c35 => ?_) (fun c35 => ?_)
      · have hf := iteT c35 hf
        refine lv_aload_n hx hb dX4_know_41 rfl (lv_at hl 0 rfl) ?_
        refine g_get (q := 0) (ci := 4) (k := 5) (ref := RX4) (C := RX4) (T := TX4) (N := 12) (index := 17) (v := .ref (κ 2)) S hK hP hiX4 (by decide) rfl rfl (by decide) rfl (by decide +kernel) rfl dX4_know_42 ?_
        refine lv_aload_n hx hb dX4_know_45 rfl (lv_at hl 0 rfl) ?_
        refine g_get (q := 0) (ci := 4) (k := 4) (ref := RX4) (C := RX4) (T := TX4) (N := 12) (index := 67) (v := .int ((σ_20.1 3))) S hK hP hiX4 (by decide) rfl rfl (by decide) rfl (by decide +kernel) rfl dX4_know_46 ?_
        refine lv_iload_n hx hb dX4_know_49 rfl (lv_at hl 1 rfl) ?_
        obtain ⟨σ6, hσ6, hf⟩ := obw hf
        refine g_ast (a := 2) (len := 4096) (f' := (mC cI cII κ σ6)) S hK hP hκ hA hS (by decide) (mC_arr (by decide) rfl) hσ6 (fun j _ => mC_as hσ6 (by decide) rfl j) dX4_know_50 (fun H locs hP hS => ?_)
        refine lv_aload_n hx hb dX4_know_51 rfl (lv_at hl 0 rfl) ?_
        refine lv_dup hx hb dX4_know_52 rfl ?_
        refine g_get (q := 0) (ci := 4) (k := 4) (ref := RX4) (C := RX4) (T := TX4) (N := 12) (index := 67) (v := .int ((σ6.1 3))) S hK hP hiX4 (by decide) rfl rfl (by decide) rfl (by decide +kernel) rfl dX4_know_53 ?_
        refine lv_iconst (v := 1) hx hb dX4_know_56 (by decide) ?_
        refine lv_iadd hx hb dX4_know_57 ?_
        obtain ⟨σ7, eσ7, hf⟩ := letb_w hf
        refine g_put (q := 0) (ci := 4) (k := 4) (ref := RX4) (C := RX4) (T := TX4) (N := 12) (index := 67) (ty := .int) (f' := (mC cI cII κ σ7)) S hK hP hκ hA hS hiX4 tyX4_ok nmX4 (by decide) rfl rfl (by decide) rfl (by decide +kernel) rfl (by decide +kernel) rfl rfl (Nat.le_of_ble_eq_true rfl) (fun j _ => by rw [eσ7]; exact mC_p3 j) dX4_know_58 (fun H locs hP hS => ?_)
        exact J61 _ hf _ _ _ hP hS (lv_sub hl [0, 1] rfl)
      · have hf := iteN c35 hf
        refine lv_goto (tgt := 61) hx hb dX4_know_38 (by decide) ?_
        exact J61 _ hf _ _ _ hP hS (lv_sub hl [0, 1] rfl)
  · have hf := iteF c4 hf
    obtain rfl := Option.some.inj hf
    exact g_vret S hr hlk hK hP hS dX4_know_7

set_option maxRecDepth 100000 in
set_option maxHeartbeats 4000000 in
theorem met_X4_crossing (l : Launch) (D : va_G) (cI cII : ClassId) (κ : Nat → Nat) (hκ : Inj 5 κ) (σ : SX) (p1 : Int32) (p2 : Int32) (r : Int32) (σ' : SX) (hf : fn_X4_crossing σ p1 p2 = some (r, σ')) : Met l yX4_crossing wsX4_crossing ({ frames := 2, cells := 0, slots := 0, locals := 49 } : Room) (va_Pc [.ref (κ 0), .int p1, .int p2] (mP D cI cII κ σ)) (QI D cI cII 5 κ (mC cI cII κ σ') r) 0 0 (gA 5 κ) := by
  refine g_enter (cc := cX4_crossing) (maxL := 3) (ret := (some .int)) (by decide) rfl (Nat.le_of_ble_eq_true rfl) ?_
  intro p e s m args below meth c ls S hr hlk _ hB hl
  have S : CallFix p m c cX4_crossing 3 s args wsX4_crossing RX4 := S
  obtain ⟨hP, hK⟩ := hB
  have hl : lv_has ls 3 [(0, .ref (κ 0)), (1, .int p1), (2, .int p2)] := hl
  have hS : va_S (gA 5 κ) s.heap s.heap [] := va_S.rf
  have hA : ∀ k, k < 5 → gA 5 κ (κ k) := gA_in
  obtain ⟨hx, hb, hml, hown, hts⟩ := id S
  have hiX4 : ∀ w ∈ u_ws RX4 TX4 12, w ∈ wsX4_crossing := by decide +kernel
  unfold fn_X4_crossing at hf
  refine lv_aload_n hx hb dX4_crossing_0 rfl (lv_at hl 0 rfl) ?_
  refine lv_iconst (v := 0) hx hb dX4_crossing_1 (by decide) ?_
  obtain ⟨σ1, eσ1, hf⟩ := letb_w hf
  refine g_put (q := 0) (ci := 4) (k := 0) (ref := RX4) (C := RX4) (T := TX4) (N := 12) (index := 26) (ty := .int) (f' := (mC cI cII κ σ1)) S hK hP hκ hA hS hiX4 tyX4_ok nmX4 (by decide) rfl rfl (by decide) rfl (by decide +kernel) rfl (by decide +kernel) rfl rfl (Nat.le_of_ble_eq_true rfl) (fun j _ => by rw [eσ1]; exact mC_p0 j) dX4_crossing_2 (fun H locs hP hS => ?_)
  refine lv_aload_n hx hb dX4_crossing_5 rfl (lv_at hl 0 rfl) ?_
  refine lv_iload_n hx hb dX4_crossing_6 rfl (lv_at hl 1 rfl) ?_
  obtain ⟨v2, hq7, hf⟩ := obw hf
  refine g_calli (va_runV (As := [.int p1]) (rest := []) S (met_X4_isSet l D cI cII κ hκ σ1 p1 v2 hq7) (cwV 1 S.2.2.2.2 gX4_crossing_X4_isSet rfl rfl rfl (by decide +kernel) ⟨Nat.le_of_ble_eq_true rfl, Nat.le_of_ble_eq_true rfl⟩) (g_preV (N := 12) (T := TX4) hK hP (Nat.le_refl _) (by decide) rfl rfl) rfl rfl hl.1 rfl (lv_room (Nat.le_of_ble_eq_true rfl)) dX4_crossing_7 ⟨Nat.le_of_ble_eq_true rfl, Nat.le_of_ble_eq_true rfl⟩) (Nat.le_refl _) hκ hA hP hS (fun j h1 h2 => absurd h2 (Nat.not_lt.mpr h1)) (fun H locs hP hS => ?_)
  refine lv_if_ne (tgt := 19) hx hb dX4_crossing_10 (by decide) (fun c10 => ?_) (fun c10 => ?_)
  · have hf := iteT c10 hf
    refine lv_iload_n hx hb dX4_crossing_19 rfl (lv_at hl 2 rfl) ?_
    obtain ⟨v3, hq20, hf⟩ := obw hf
    refine g_calli (va_runS (As := [.int p2]) (rest := []) S (met_X4_isLabel l D cI cII κ hκ σ1 p2 v3 hq20) (va_cwS 1 S.2.2.2.2 gX4_crossing_X4_isLabel rfl rfl rfl (by decide +kernel) ⟨Nat.le_of_ble_eq_true rfl, Nat.le_of_ble_eq_true rfl⟩) (g_preS hK hP (Nat.le_refl _)) rfl rfl hl.1 rfl (lv_room (Nat.le_of_ble_eq_true rfl)) dX4_crossing_20 ⟨Nat.le_of_ble_eq_true rfl, Nat.le_of_ble_eq_true rfl⟩) (Nat.le_refl _) hκ hA hP hS (fun j h1 h2 => absurd h2 (Nat.not_lt.mpr h1)) (fun H locs hP hS => ?_)
    refine lv_if_eq (tgt := 35) hx hb dX4_crossing_23 (by decide) (fun c23 => ?_) (fun c23 => ?_)
    · have hf := iteT c23 hf
      refine lv_aload_n hx hb dX4_crossing_35 rfl (lv_at hl 0 rfl) ?_
      refine lv_iconst (v := 2) hx hb dX4_crossing_36 (by decide) ?_
      obtain ⟨v5, σ4, hq37, hf⟩ := bind2_w hf
      refine g_calli (va_runV (As := [.int 2]) (rest := []) S (met_X4_fail l D cI cII κ hκ σ1 2 v5 σ4 hq37) (cwV 1 S.2.2.2.2 gX4_crossing_X4_fail rfl rfl rfl (by decide +kernel) ⟨Nat.le_of_ble_eq_true rfl, Nat.le_of_ble_eq_true rfl⟩) (g_preV (N := 12) (T := TX4) hK hP (Nat.le_refl _) (by decide) rfl rfl) rfl rfl hl.1 rfl (lv_room (Nat.le_of_ble_eq_true rfl)) dX4_crossing_37 ⟨Nat.le_of_ble_eq_true rfl, Nat.le_of_ble_eq_true rfl⟩) (Nat.le_refl _) hκ hA hP hS (fun j h1 h2 => absurd h2 (Nat.not_lt.mpr h1)) (fun H locs hP hS => ?_)
      obtain ⟨h8, h9⟩ := Prod.mk.inj (Option.some.inj hf)
      subst h9
      exact g_iret S hr hlk hK hP hS h8 dX4_crossing_40
    · have hf := iteF c23 hf
      refine lv_aload_n hx hb dX4_crossing_26 rfl (lv_at hl 0 rfl) ?_
      refine lv_iload_n hx hb dX4_crossing_27 rfl (lv_at hl 1 rfl) ?_
      refine lv_iload_n hx hb dX4_crossing_28 rfl (lv_at hl 2 rfl) ?_
      obtain ⟨v6, hq29, hf⟩ := obw hf
      refine g_calli (va_runV (As := [.int p1, .int p2]) (rest := []) S (met_X4_way l D cI cII κ hκ σ1 p1 p2 v6 hq29) (cwV 2 S.2.2.2.2 gX4_crossing_X4_way rfl rfl rfl (by decide +kernel) ⟨Nat.le_of_ble_eq_true rfl, Nat.le_of_ble_eq_true rfl⟩) (g_preV (N := 12) (T := TX4) hK hP (Nat.le_refl _) (by decide) rfl rfl) rfl rfl hl.1 rfl (lv_room (Nat.le_of_ble_eq_true rfl)) dX4_crossing_29 ⟨Nat.le_of_ble_eq_true rfl, Nat.le_of_ble_eq_true rfl⟩) (Nat.le_refl _) hκ hA hP hS (fun j h1 h2 => absurd h2 (Nat.not_lt.mpr h1)) (fun H locs hP hS => ?_)
      refine lv_goto (tgt := 40) hx hb dX4_crossing_32 (by decide) ?_
      obtain ⟨h8, h9⟩ := Prod.mk.inj (Option.some.inj hf)
      subst h9
      exact g_iret S hr hlk hK hP hS h8 dX4_crossing_40
  · have hf := iteN c10 hf
    refine lv_aload_n hx hb dX4_crossing_13 rfl (lv_at hl 0 rfl) ?_
    refine lv_iconst (v := 1) hx hb dX4_crossing_14 (by decide) ?_
    obtain ⟨v8, σ7, hq15, hf⟩ := bind2_w hf
    refine g_calli (va_runV (As := [.int 1]) (rest := []) S (met_X4_fail l D cI cII κ hκ σ1 1 v8 σ7 hq15) (cwV 1 S.2.2.2.2 gX4_crossing_X4_fail rfl rfl rfl (by decide +kernel) ⟨Nat.le_of_ble_eq_true rfl, Nat.le_of_ble_eq_true rfl⟩) (g_preV (N := 12) (T := TX4) hK hP (Nat.le_refl _) (by decide) rfl rfl) rfl rfl hl.1 rfl (lv_room (Nat.le_of_ble_eq_true rfl)) dX4_crossing_15 ⟨Nat.le_of_ble_eq_true rfl, Nat.le_of_ble_eq_true rfl⟩) (Nat.le_refl _) hκ hA hP hS (fun j h1 h2 => absurd h2 (Nat.not_lt.mpr h1)) (fun H locs hP hS => ?_)
    obtain ⟨h8, h9⟩ := Prod.mk.inj (Option.some.inj hf)
    subst h9
    exact g_iret S hr hlk hK hP hS h8 dX4_crossing_18

set_option maxRecDepth 100000 in
set_option maxHeartbeats 4000000 in
theorem met_X4_isRegion (l : Launch) (D : va_G) (cI cII : ClassId) (κ : Nat → Nat) (hκ : Inj 5 κ) (σ : SX) (p1 : Int32) (r : Int32) (σ' : SX) (hf : fn_X4_isRegion σ p1 = some (r, σ')) : Met l yX4_isRegion wsX4_isRegion ({ frames := 4, cells := 0, slots := 0, locals := 92 } : Room) (va_Pc [.ref (κ 0), .int p1] (mP D cI cII κ σ)) (QI D cI cII 5 κ (mC cI cII κ σ') r) 0 0 (gA 5 κ) := by
  refine g_enter (cc := cX4_isRegion) (maxL := 2) (ret := (some .boolean)) (by decide) rfl (Nat.le_of_ble_eq_true rfl) ?_
  intro p e s m args below meth c ls S hr hlk _ hB hl
  have S : CallFix p m c cX4_isRegion 2 s args wsX4_isRegion RX4 := S
  obtain ⟨hP, hK⟩ := hB
  have hl : lv_has ls 2 [(0, .ref (κ 0)), (1, .int p1)] := hl
  have hS : va_S (gA 5 κ) s.heap s.heap [] := va_S.rf
  have hA : ∀ k, k < 5 → gA 5 κ (κ k) := gA_in
  obtain ⟨hx, hb, hml, hown, hts⟩ := id S
  have hiX4 : ∀ w ∈ u_ws RX4 TX4 12, w ∈ wsX4_isRegion := by decide +kernel
  unfold fn_X4_isRegion at hf
  refine lv_aload_n hx hb dX4_isRegion_0 rfl (lv_at hl 0 rfl) ?_
  refine lv_aload_n hx hb dX4_isRegion_1 rfl (lv_at hl 0 rfl) ?_
  refine lv_iload_n hx hb dX4_isRegion_2 rfl (lv_at hl 1 rfl) ?_
  obtain ⟨v1, hq3, hf⟩ := obw hf
  refine g_calli (va_runV (As := [.int p1]) (rest := [.ref (κ 0)]) S (met_X4_isSet l D cI cII κ hκ σ p1 v1 hq3) (cwV 1 S.2.2.2.2 gX4_isRegion_X4_isSet rfl rfl rfl (by decide +kernel) ⟨Nat.le_of_ble_eq_true rfl, Nat.le_of_ble_eq_true rfl⟩) (g_preV (N := 12) (T := TX4) hK hP (Nat.le_refl _) (by decide) rfl rfl) rfl rfl hl.1 rfl (lv_room (Nat.le_of_ble_eq_true rfl)) dX4_isRegion_3 ⟨Nat.le_of_ble_eq_true rfl, Nat.le_of_ble_eq_true rfl⟩) (Nat.le_refl _) hκ hA hP hS (fun j h1 h2 => absurd h2 (Nat.not_lt.mpr h1)) (fun H locs hP hS => ?_)
  obtain ⟨K14, hK14, hf⟩ := letb_w hf
  have J14 : ∀ (z1_14 : Int32), K14 z1_14 = some (r, σ') → ∀ (H : Heap) (locs : List Loc) (ls : Array Slot), va_P D vwCl (gw 5 κ (mC cI cII κ σ)) H → va_S (gA 5 κ) s.heap H locs → lv_has ls 2 [(0, .ref (κ 0)), (1, .int p1)] → W p l e ({ frames := 4, cells := 0, slots := 0, locals := 92 } : Room) s m args below meth c H locs 0 0 (MQ below (QI D cI cII 5 κ (mC cI cII κ σ') r) args s 0 0 (gA 5 κ)) (F0 m 14 ls [.int z1_14, .ref (κ 0)]) := by
    intro z1_14 hf H locs ls hP hS hl
    rw [hK14] at hf
    obtain ⟨σ2, eσ2, hf⟩ := letb_w hf
    refine g_put (q := 0) (ci := 4) (k := 0) (ref := RX4) (C := RX4) (T := TX4) (N := 12) (index := 26) (ty := .int) (f' := (mC cI cII κ σ2)) S hK hP hκ hA hS hiX4 tyX4_ok nmX4 (by decide) rfl rfl (by decide) rfl (by decide +kernel) rfl (by decide +kernel) rfl rfl (Nat.le_of_ble_eq_true rfl) (fun j _ => by rw [eσ2]; exact mC_p0 j) dX4_isRegion_14 (fun H locs hP hS => ?_)
    refine lv_aload_n hx hb dX4_isRegion_17 rfl (lv_at hl 0 rfl) ?_
    refine g_get (q := 0) (ci := 4) (k := 0) (ref := RX4) (C := RX4) (T := TX4) (N := 12) (index := 26) (v := .int ((σ2.1 0))) S hK hP hiX4 (by decide) rfl rfl (by decide) rfl (by decide +kernel) rfl dX4_isRegion_18 ?_
    obtain ⟨K36, hK36, hf⟩ := letb_w hf
    have J36 : ∀ (_u : Unit), K36 _u = some (r, σ') → ∀ (H : Heap) (locs : List Loc) (ls : Array Slot), va_P D vwCl (gw 5 κ (mC cI cII κ σ2)) H → va_S (gA 5 κ) s.heap H locs → lv_has ls 2 [] → W p l e ({ frames := 4, cells := 0, slots := 0, locals := 92 } : Room) s m args below meth c H locs 0 0 (MQ below (QI D cI cII 5 κ (mC cI cII κ σ') r) args s 0 0 (gA 5 κ)) (F0 m 36 ls []) := by
      intro _u hf H locs ls hP hS hl
      rw [hK36] at hf
      refine lv_iconst (v := 0) hx hb dX4_isRegion_36 (by decide) ?_
      obtain ⟨w9, hw9, hf⟩ := obw hf
      obtain ⟨h8, h9⟩ := Prod.mk.inj (Option.some.inj hf)
      subst h8
      subst h9
      exact g_zret S hr hlk hK hP hS hw9 dX4_isRegion_37
    refine lv_if_ne (tgt := 36) hx hb dX4_isRegion_21 (by decide) (fun c21 => ?_) (fun c21 => ?_)
    · have hf := iteT c21 hf
      exact J36 _ hf _ _ _ hP hS (lv_sub hl [] rfl)
    · have hf := iteN c21 hf
      refine lv_aload_n hx hb dX4_isRegion_24 rfl (lv_at hl 0 rfl) ?_
      refine lv_iload_n hx hb dX4_isRegion_25 rfl (lv_at hl 1 rfl) ?_
      obtain ⟨v3, hq26, hf⟩ := obw hf
      refine g_calli (va_runV (As := [.int p1]) (rest := []) S (met_X4_isProper l D cI cII κ hκ σ2 p1 v3 hq26) (cwV 1 S.2.2.2.2 gX4_isRegion_X4_isProper rfl rfl rfl (by decide +kernel) ⟨Nat.le_of_ble_eq_true rfl, Nat.le_of_ble_eq_true rfl⟩) (g_preV (N := 12) (T := TX4) hK hP (Nat.le_refl _) (by decide) rfl rfl) rfl rfl hl.1 rfl (lv_room (Nat.le_of_ble_eq_true rfl)) dX4_isRegion_26 ⟨Nat.le_of_ble_eq_true rfl, Nat.le_of_ble_eq_true rfl⟩) (Nat.le_refl _) hκ hA hP hS (fun j h1 h2 => absurd h2 (Nat.not_lt.mpr h1)) (fun H locs hP hS => ?_)
      refine lv_if_eq (tgt := 36) hx hb dX4_isRegion_29 (by decide) (fun c29 => ?_) (fun c29 => ?_)
      · have hf := iteT c29 hf
        exact J36 _ hf _ _ _ hP hS (lv_sub hl [] rfl)
      · have hf := iteF c29 hf
        refine lv_iconst (v := 1) hx hb dX4_isRegion_32 (by decide) ?_
        refine lv_goto (tgt := 37) hx hb dX4_isRegion_33 (by decide) ?_
        obtain ⟨w9, hw9, hf⟩ := obw hf
        obtain ⟨h8, h9⟩ := Prod.mk.inj (Option.some.inj hf)
        subst h8
        subst h9
        exact g_zret S hr hlk hK hP hS hw9 dX4_isRegion_37
  refine lv_if_eq (tgt := 13) hx hb dX4_isRegion_6 (by decide) (fun c6 => ?_) (fun c6 => ?_)
  · have hf := iteT c6 hf
    refine lv_iconst (v := 1) hx hb dX4_isRegion_13 (by decide) ?_
    exact J14 _ hf _ _ _ hP hS (lv_sub hl [0, 1] rfl)
  · have hf := iteF c6 hf
    refine lv_iconst (v := 0) hx hb dX4_isRegion_9 (by decide) ?_
    refine lv_goto (tgt := 14) hx hb dX4_isRegion_10 (by decide) ?_
    exact J14 _ hf _ _ _ hP hS (lv_sub hl [0, 1] rfl)

set_option maxRecDepth 100000 in
set_option maxHeartbeats 4000000 in
theorem met_X4_regionCount (l : Launch) (D : va_G) (cI cII : ClassId) (κ : Nat → Nat) (hκ : Inj 5 κ) (σ : SX)  (r : Int32) (σ' : SX) (hf : fn_X4_regionCount σ  = some (r, σ')) : Met l yX4_regionCount wsX4_regionCount ({ frames := 5, cells := 0, slots := 0, locals := 113 } : Room) (va_Pc [.ref (κ 0)] (mP D cI cII κ σ)) (QI D cI cII 5 κ (mC cI cII κ σ') r) 0 0 (gA 5 κ) := by
  refine g_enter (cc := cX4_regionCount) (maxL := 1) (ret := (some .int)) (by decide) rfl (Nat.le_of_ble_eq_true rfl) ?_
  intro p e s m args below meth c ls S hr hlk _ hB hl
  have S : CallFix p m c cX4_regionCount 1 s args wsX4_regionCount RX4 := S
  obtain ⟨hP, hK⟩ := hB
  have hl : lv_has ls 1 [(0, .ref (κ 0))] := hl
  have hS : va_S (gA 5 κ) s.heap s.heap [] := va_S.rf
  have hA : ∀ k, k < 5 → gA 5 κ (κ k) := gA_in
  obtain ⟨hx, hb, hml, hown, hts⟩ := id S
  have hiX4 : ∀ w ∈ u_ws RX4 TX4 12, w ∈ wsX4_regionCount := by decide +kernel
  unfold fn_X4_regionCount at hf
  refine lv_aload_n hx hb dX4_regionCount_0 rfl (lv_at hl 0 rfl) ?_
  refine lv_iconst (v := 0) hx hb dX4_regionCount_1 (by decide) ?_
  obtain ⟨σ1, eσ1, hf⟩ := letb_w hf
  refine g_put (q := 0) (ci := 4) (k := 0) (ref := RX4) (C := RX4) (T := TX4) (N := 12) (index := 26) (ty := .int) (f' := (mC cI cII κ σ1)) S hK hP hκ hA hS hiX4 tyX4_ok nmX4 (by decide) rfl rfl (by decide) rfl (by decide +kernel) rfl (by decide +kernel) rfl rfl (Nat.le_of_ble_eq_true rfl) (fun j _ => by rw [eσ1]; exact mC_p0 j) dX4_regionCount_2 (fun H locs hP hS => ?_)
  refine lv_aload_n hx hb dX4_regionCount_5 rfl (lv_at hl 0 rfl) ?_
  obtain ⟨σ2, hq6, hf⟩ := obw hf
  refine g_callv (va_runV (As := []) (rest := []) S (met_X4_know l D cI cII κ hκ σ1 σ2 hq6) (cwV 0 S.2.2.2.2 gX4_regionCount_X4_know rfl rfl rfl (by decide +kernel) ⟨Nat.le_of_ble_eq_true rfl, Nat.le_of_ble_eq_true rfl⟩) (g_preV (N := 12) (T := TX4) hK hP (Nat.le_refl _) (by decide) rfl rfl) rfl rfl hl.1 rfl (lv_room (Nat.le_of_ble_eq_true rfl)) dX4_regionCount_6 ⟨Nat.le_of_ble_eq_true rfl, Nat.le_of_ble_eq_true rfl⟩) (Nat.le_refl _) hκ hA hP hS (fun j h1 h2 => absurd h2 (Nat.not_lt.mpr h1)) (fun H locs hP hS => ?_)
  refine lv_aload_n hx hb dX4_regionCount_9 rfl (lv_at hl 0 rfl) ?_
  refine g_get (q := 0) (ci := 4) (k := 4) (ref := RX4) (C := RX4) (T := TX4) (N := 12) (index := 67) (v := .int ((σ2.1 3))) S hK hP hiX4 (by decide) rfl rfl (by decide) rfl (by decide +kernel) rfl dX4_regionCount_10 ?_
  obtain ⟨h8, h9⟩ := Prod.mk.inj (Option.some.inj hf)
  subst h9
  exact g_iret S hr hlk hK hP hS h8 dX4_regionCount_13

set_option maxRecDepth 100000 in
set_option maxHeartbeats 4000000 in
theorem met_X4_region (l : Launch) (D : va_G) (cI cII : ClassId) (κ : Nat → Nat) (hκ : Inj 5 κ) (σ : SX) (p1 : Int32) (r : Int32) (σ' : SX) (hf : fn_X4_region σ p1 = some (r, σ')) : Met l yX4_region wsX4_region ({ frames := 5, cells := 0, slots := 0, locals := 113 } : Room) (va_Pc [.ref (κ 0), .int p1] (mP D cI cII κ σ)) (QI D cI cII 5 κ (mC cI cII κ σ') r) 0 0 (gA 5 κ) := by
  refine g_enter (cc := cX4_region) (maxL := 2) (ret := (some .int)) (by decide) rfl (Nat.le_of_ble_eq_true rfl) ?_
  intro p e s m args below meth c ls S hr hlk _ hB hl
  have S : CallFix p m c cX4_region 2 s args wsX4_region RX4 := S
  obtain ⟨hP, hK⟩ := hB
  have hl : lv_has ls 2 [(0, .ref (κ 0)), (1, .int p1)] := hl
  have hS : va_S (gA 5 κ) s.heap s.heap [] := va_S.rf
  have hA : ∀ k, k < 5 → gA 5 κ (κ k) := gA_in
  obtain ⟨hx, hb, hml, hown, hts⟩ := id S
  have hiX4 : ∀ w ∈ u_ws RX4 TX4 12, w ∈ wsX4_region := by decide +kernel
  unfold fn_X4_region at hf
  refine lv_aload_n hx hb dX4_region_0 rfl (lv_at hl 0 rfl) ?_
  refine lv_iconst (v := 0) hx hb dX4_region_1 (by decide) ?_
  obtain ⟨σ1, eσ1, hf⟩ := letb_w hf
  refine g_put (q := 0) (ci := 4) (k := 0) (ref := RX4) (C := RX4) (T := TX4) (N := 12) (index := 26) (ty := .int) (f' := (mC cI cII κ σ1)) S hK hP hκ hA hS hiX4 tyX4_ok nmX4 (by decide) rfl rfl (by decide) rfl (by decide +kernel) rfl (by decide +kernel) rfl rfl (Nat.le_of_ble_eq_true rfl) (fun j _ => by rw [eσ1]; exact mC_p0 j) dX4_region_2 (fun H locs hP hS => ?_)
  refine lv_aload_n hx hb dX4_region_5 rfl (lv_at hl 0 rfl) ?_
  obtain ⟨σ2, hq6, hf⟩ := obw hf
  refine g_callv (va_runV (As := []) (rest := []) S (met_X4_know l D cI cII κ hκ σ1 σ2 hq6) (cwV 0 S.2.2.2.2 gX4_region_X4_know rfl rfl rfl (by decide +kernel) ⟨Nat.le_of_ble_eq_true rfl, Nat.le_of_ble_eq_true rfl⟩) (g_preV (N := 12) (T := TX4) hK hP (Nat.le_refl _) (by decide) rfl rfl) rfl rfl hl.1 rfl (lv_room (Nat.le_of_ble_eq_true rfl)) dX4_region_6 ⟨Nat.le_of_ble_eq_true rfl, Nat.le_of_ble_eq_true rfl⟩) (Nat.le_refl _) hκ hA hP hS (fun j h1 h2 => absurd h2 (Nat.not_lt.mpr h1)) (fun H locs hP hS => ?_)
  refine lv_iload_n hx hb dX4_region_9 rfl (lv_at hl 1 rfl) ?_
  obtain ⟨K30, hK30, hf⟩ := letb_w hf
  have J30 : ∀ (_u : Unit), K30 _u = some (r, σ') → ∀ (H : Heap) (locs : List Loc) (ls : Array Slot), va_P D vwCl (gw 5 κ (mC cI cII κ σ2)) H → va_S (gA 5 κ) s.heap H locs → lv_has ls 2 [(0, .ref (κ 0))] → W p l e ({ frames := 5, cells := 0, slots := 0, locals := 113 } : Room) s m args below meth c H locs 0 0 (MQ below (QI D cI cII 5 κ (mC cI cII κ σ') r) args s 0 0 (gA 5 κ)) (F0 m 30 ls []) := by
    intro _u hf H locs ls hP hS hl
    rw [hK30] at hf
    refine lv_aload_n hx hb dX4_region_30 rfl (lv_at hl 0 rfl) ?_
    refine lv_iconst (v := 1) hx hb dX4_region_31 (by decide) ?_
    obtain ⟨v4, σ3, hq32, hf⟩ := bind2_w hf
    refine g_calli (va_runV (As := [.int 1]) (rest := []) S (met_X4_fail l D cI cII κ hκ σ2 1 v4 σ3 hq32) (cwV 1 S.2.2.2.2 gX4_region_X4_fail rfl rfl rfl (by decide +kernel) ⟨Nat.le_of_ble_eq_true rfl, Nat.le_of_ble_eq_true rfl⟩) (g_preV (N := 12) (T := TX4) hK hP (Nat.le_refl _) (by decide) rfl rfl) rfl rfl hl.1 rfl (lv_room (Nat.le_of_ble_eq_true rfl)) dX4_region_32 ⟨Nat.le_of_ble_eq_true rfl, Nat.le_of_ble_eq_true rfl⟩) (Nat.le_refl _) hκ hA hP hS (fun j h1 h2 => absurd h2 (Nat.not_lt.mpr h1)) (fun H locs hP hS => ?_)
    obtain ⟨h8, h9⟩ := Prod.mk.inj (Option.some.inj hf)
    subst h9
    exact g_iret S hr hlk hK hP hS h8 dX4_region_35
  refine lv_if_lt (tgt := 30) hx hb dX4_region_10 (by decide) (fun c10 => ?_) (fun c10 => ?_)
  · have hf := iteT c10 hf
    exact J30 _ hf _ _ _ hP hS (lv_sub hl [0] rfl)
  · have hf := iteF c10 hf
    refine lv_iload_n hx hb dX4_region_13 rfl (lv_at hl 1 rfl) ?_
    refine lv_aload_n hx hb dX4_region_14 rfl (lv_at hl 0 rfl) ?_
    refine g_get (q := 0) (ci := 4) (k := 4) (ref := RX4) (C := RX4) (T := TX4) (N := 12) (index := 67) (v := .int ((σ2.1 3))) S hK hP hiX4 (by decide) rfl rfl (by decide) rfl (by decide +kernel) rfl dX4_region_15 ?_
    refine lv_icmp_ge (tgt := 30) hx hb dX4_region_18 (by decide) (fun c18 => ?_) (fun c18 => ?_)
    · have hf := iteT c18 hf
      exact J30 _ hf _ _ _ hP hS (lv_sub hl [0] rfl)
    · have hf := iteF c18 hf
      refine lv_aload_n hx hb dX4_region_21 rfl (lv_at hl 0 rfl) ?_
      refine g_get (q := 0) (ci := 4) (k := 5) (ref := RX4) (C := RX4) (T := TX4) (N := 12) (index := 17) (v := .ref (κ 2)) S hK hP hiX4 (by decide) rfl rfl (by decide) rfl (by decide +kernel) rfl dX4_region_22 ?_
      refine lv_iload_n hx hb dX4_region_25 rfl (lv_at hl 1 rfl) ?_
      obtain ⟨v5, hv5, hf⟩ := obw hf
      refine g_ald (a := 2) (len := 4096) S hK hP (by decide) (mC_arr (by decide) rfl) hv5 dX4_region_26 ?_
      refine lv_goto (tgt := 35) hx hb dX4_region_27 (by decide) ?_
      obtain ⟨h8, h9⟩ := Prod.mk.inj (Option.some.inj hf)
      subst h9
      exact g_iret S hr hlk hK hP hS h8 dX4_region_35

set_option maxRecDepth 100000 in
set_option maxHeartbeats 4000000 in
theorem met_X4_isSmallest (l : Launch) (D : va_G) (cI cII : ClassId) (κ : Nat → Nat) (hκ : Inj 5 κ) (σ : SX) (p1 : Int32) (r : Int32) (hf : fn_X4_isSmallest σ p1 = some r) : Met l yX4_isSmallest wsX4_isSmallest ({ frames := 0, cells := 0, slots := 0, locals := 0 } : Room) (va_Pc [.ref (κ 0), .int p1] (mP D cI cII κ σ)) (QI D cI cII 5 κ (mC cI cII κ σ) r) 0 0 (gA 5 κ) := by
  refine g_enter (cc := cX4_isSmallest) (maxL := 4) (ret := (some .boolean)) (by decide) rfl (Nat.le_of_ble_eq_true rfl) ?_
  intro p e s m args below meth c ls S hr hlk _ hB hl
  have S : CallFix p m c cX4_isSmallest 4 s args wsX4_isSmallest RX4 := S
  obtain ⟨hP, hK⟩ := hB
  have hl : lv_has ls 4 [(0, .ref (κ 0)), (1, .int p1)] := hl
  have hS : va_S (gA 5 κ) s.heap s.heap [] := va_S.rf
  have hA : ∀ k, k < 5 → gA 5 κ (κ k) := gA_in
  obtain ⟨hx, hb, hml, hown, hts⟩ := id S
  have hiX4 : ∀ w ∈ u_ws RX4 TX4 12, w ∈ wsX4_isSmallest := by decide +kernel
  unfold fn_X4_isSmallest at hf
  refine lv_iconst (v := 1) hx hb dX4_isSmallest_0 (by decide) ?_
  obtain ⟨v1, ev1, hf⟩ := letb_w hf
  refine lv_nmi ev1 ?_
  refine lv_istore_n (lv' := [(2, .int v1), (0, .ref (κ 0)), (1, .int p1)]) hx hb dX4_isSmallest_1 rfl hl (by decide) rfl (fun ls hl => ?_)
  refine lv_iconst (v := 0) hx hb dX4_isSmallest_2 (by decide) ?_
  obtain ⟨v2, ev2, hf⟩ := letb_w hf
  refine lv_nmi ev2 ?_
  refine lv_istore_n (lv' := [(3, .int v2), (2, .int v1), (0, .ref (κ 0)), (1, .int p1)]) hx hb dX4_isSmallest_3 rfl hl (by decide) rfl (fun ls hl => ?_)
  refine loopF_w (P := fun (g : Int32 → Int32 → Option (Int32)) => ∀ (x2_4 : Int32) (x3_4 : Int32), g x2_4 x3_4 = some r → ∀ (H : Heap) (locs : List Loc) (ls : Array Slot), va_P D vwCl (gw 5 κ (mC cI cII κ σ)) H → va_S (gA 5 κ) s.heap H locs → lv_has ls 4 [(0, .ref (κ 0)), (1, .int p1), (2, .int x2_4), (3, .int x3_4)] → W p l e ({ frames := 0, cells := 0, slots := 0, locals := 0 } : Room) s m args below meth c H locs 0 0 (MQ below (QI D cI cII 5 κ (mC cI cII κ σ) r) args s 0 0 (gA 5 κ)) (F0 m 4 ls [])) (fun _ _ h => by simp at h) ?_ FU _ _ hf _ _ _ hP hS (lv_sub hl [2, 3, 1, 0] rfl)
  intro rec4 ih4 x2_4 x3_4 hf H locs ls hP hS hl
  unfold bd_X4_isSmallest_4 at hf
  refine lv_iload_n hx hb dX4_isSmallest_4 rfl (lv_at hl 3 rfl) ?_
  refine lv_iload_n hx hb dX4_isSmallest_5 rfl (lv_at hl 1 rfl) ?_
  obtain ⟨K43, hK43, hf⟩ := letb_w hf
  have J43 : ∀ (_u : Unit), K43 _u = some r → ∀ (H : Heap) (locs : List Loc) (ls : Array Slot), va_P D vwCl (gw 5 κ (mC cI cII κ σ)) H → va_S (gA 5 κ) s.heap H locs → lv_has ls 4 [(2, .int x2_4)] → W p l e ({ frames := 0, cells := 0, slots := 0, locals := 0 } : Room) s m args below meth c H locs 0 0 (MQ below (QI D cI cII 5 κ (mC cI cII κ σ) r) args s 0 0 (gA 5 κ)) (F0 m 43 ls []) := by
    intro _u hf H locs ls hP hS hl
    rw [hK43] at hf
    refine lv_iload_n hx hb dX4_isSmallest_43 rfl (lv_at hl 0 rfl) ?_
    exact g_zret S hr hlk hK hP hS hf dX4_isSmallest_44
  refine lv_icmp_ge (tgt := 43) hx hb dX4_isSmallest_6 (by decide) (fun c6 => ?_) (fun c6 => ?_)
  · have hf := iteT c6 hf
    exact J43 _ hf _ _ _ hP hS (lv_sub hl [2] rfl)
  · have hf := iteF c6 hf
    refine lv_iload_n hx hb dX4_isSmallest_9 rfl (lv_at hl 2 rfl) ?_
    refine lv_if_eq (tgt := 43) hx hb dX4_isSmallest_10 (by decide) (fun c10 => ?_) (fun c10 => ?_)
    · have hf := iteT c10 hf
      exact J43 _ hf _ _ _ hP hS (lv_sub hl [2] rfl)
    · have hf := iteF c10 hf
      refine lv_aload_n hx hb dX4_isSmallest_13 rfl (lv_at hl 0 rfl) ?_
      refine g_get (q := 0) (ci := 4) (k := 5) (ref := RX4) (C := RX4) (T := TX4) (N := 12) (index := 17) (v := .ref (κ 2)) S hK hP hiX4 (by decide) rfl rfl (by decide) rfl (by decide +kernel) rfl dX4_isSmallest_14 ?_
      refine lv_iload_n hx hb dX4_isSmallest_17 rfl (lv_at hl 3 rfl) ?_
      obtain ⟨v3, hv3, hf⟩ := obw hf
      refine g_ald (a := 2) (len := 4096) S hK hP (by decide) (mC_arr (by decide) rfl) hv3 dX4_isSmallest_18 ?_
      refine lv_aload_n hx hb dX4_isSmallest_19 rfl (lv_at hl 0 rfl) ?_
      refine g_get (q := 0) (ci := 4) (k := 5) (ref := RX4) (C := RX4) (T := TX4) (N := 12) (index := 17) (v := .ref (κ 2)) S hK hP hiX4 (by decide) rfl rfl (by decide) rfl (by decide +kernel) rfl dX4_isSmallest_20 ?_
      refine lv_iload_n hx hb dX4_isSmallest_23 rfl (lv_at hl 1 rfl) ?_
      obtain ⟨v4, hv4, hf⟩ := obw hf
      refine g_ald (a := 2) (len := 4096) S hK hP (by decide) (mC_arr (by decide) rfl) hv4 dX4_isSmallest_24 ?_
      refine lv_iconst (v := -1) hx hb dX4_isSmallest_25 (by decide) ?_
      refine lv_ixor hx hb dX4_isSmallest_26 ?_
      refine lv_iand hx hb dX4_isSmallest_27 ?_
      obtain ⟨K36, hK36, hf⟩ := letb_w hf
      have J36 : ∀ (z0_36 : Int32), K36 z0_36 = some r → ∀ (H : Heap) (locs : List Loc) (ls : Array Slot), va_P D vwCl (gw 5 κ (mC cI cII κ σ)) H → va_S (gA 5 κ) s.heap H locs → lv_has ls 4 [(0, .ref (κ 0)), (1, .int p1), (3, .int x3_4)] → W p l e ({ frames := 0, cells := 0, slots := 0, locals := 0 } : Room) s m args below meth c H locs 0 0 (MQ below (QI D cI cII 5 κ (mC cI cII κ σ) r) args s 0 0 (gA 5 κ)) (F0 m 36 ls [.int z0_36]) := by
        intro z0_36 hf H locs ls hP hS hl
        rw [hK36] at hf
        obtain ⟨v5, ev5, hf⟩ := letb_w hf
        refine lv_nmi ev5 ?_
        refine lv_istore_n (lv' := [(2, .int v5), (0, .ref (κ 0)), (1, .int p1), (3, .int x3_4)]) hx hb dX4_isSmallest_36 rfl hl (by decide) rfl (fun ls hl => ?_)
        obtain ⟨v6, ev6, hf⟩ := letb_w hf
        refine lv_iinc (v := v6) (lv' := [(3, .int v6), (2, .int v5), (0, .ref (κ 0)), (1, .int p1)]) hx hb dX4_isSmallest_37 hl (k := 3) rfl (by rw [ev6]; rfl) (by decide) rfl (fun ls hl => ?_)
        refine lv_goto (tgt := 4) hx hb dX4_isSmallest_40 (by decide) ?_
        exact ih4 _ _ hf _ _ _ hP hS (lv_sub hl [2, 3, 1, 0] rfl)
      refine lv_if_eq (tgt := 35) hx hb dX4_isSmallest_28 (by decide) (fun c28 => ?_) (fun c28 => ?_)
      · have hf := iteT c28 hf
        refine lv_iconst (v := 0) hx hb dX4_isSmallest_35 (by decide) ?_
        exact J36 _ hf _ _ _ hP hS (lv_sub hl [0, 1, 3] rfl)
      · have hf := iteF c28 hf
        refine lv_iconst (v := 1) hx hb dX4_isSmallest_31 (by decide) ?_
        refine lv_goto (tgt := 36) hx hb dX4_isSmallest_32 (by decide) ?_
        exact J36 _ hf _ _ _ hP hS (lv_sub hl [0, 1, 3] rfl)

set_option maxRecDepth 100000 in
set_option maxHeartbeats 4000000 in
theorem met_X4_isLeast (l : Launch) (D : va_G) (cI cII : ClassId) (κ : Nat → Nat) (hκ : Inj 5 κ) (σ : SX) (p1 : Int32) (r : Int32) (σ' : SX) (hf : fn_X4_isLeast σ p1 = some (r, σ')) : Met l yX4_isLeast wsX4_isLeast ({ frames := 5, cells := 0, slots := 0, locals := 113 } : Room) (va_Pc [.ref (κ 0), .int p1] (mP D cI cII κ σ)) (QI D cI cII 5 κ (mC cI cII κ σ') r) 0 0 (gA 5 κ) := by
  refine g_enter (cc := cX4_isLeast) (maxL := 2) (ret := (some .boolean)) (by decide) rfl (Nat.le_of_ble_eq_true rfl) ?_
  intro p e s m args below meth c ls S hr hlk _ hB hl
  have S : CallFix p m c cX4_isLeast 2 s args wsX4_isLeast RX4 := S
  obtain ⟨hP, hK⟩ := hB
  have hl : lv_has ls 2 [(0, .ref (κ 0)), (1, .int p1)] := hl
  have hS : va_S (gA 5 κ) s.heap s.heap [] := va_S.rf
  have hA : ∀ k, k < 5 → gA 5 κ (κ k) := gA_in
  obtain ⟨hx, hb, hml, hown, hts⟩ := id S
  have hiX4 : ∀ w ∈ u_ws RX4 TX4 12, w ∈ wsX4_isLeast := by decide +kernel
  unfold fn_X4_isLeast at hf
  refine lv_aload_n hx hb dX4_isLeast_0 rfl (lv_at hl 0 rfl) ?_
  obtain ⟨σ1, hq1, hf⟩ := obw hf
  refine g_callv (va_runV (As := []) (rest := []) S (met_X4_know l D cI cII κ hκ σ σ1 hq1) (cwV 0 S.2.2.2.2 gX4_isLeast_X4_know rfl rfl rfl (by decide +kernel) ⟨Nat.le_of_ble_eq_true rfl, Nat.le_of_ble_eq_true rfl⟩) (g_preV (N := 12) (T := TX4) hK hP (Nat.le_refl _) (by decide) rfl rfl) rfl rfl hl.1 rfl (lv_room (Nat.le_of_ble_eq_true rfl)) dX4_isLeast_1 ⟨Nat.le_of_ble_eq_true rfl, Nat.le_of_ble_eq_true rfl⟩) (Nat.le_refl _) hκ hA hP hS (fun j h1 h2 => absurd h2 (Nat.not_lt.mpr h1)) (fun H locs hP hS => ?_)
  refine lv_aload_n hx hb dX4_isLeast_4 rfl (lv_at hl 0 rfl) ?_
  refine lv_iload_n hx hb dX4_isLeast_5 rfl (lv_at hl 1 rfl) ?_
  obtain ⟨K22, hK22, hf⟩ := letb_w hf
  have J22 : ∀ (z1_22 : Int32), K22 z1_22 = some (r, σ') → ∀ (H : Heap) (locs : List Loc) (ls : Array Slot), va_P D vwCl (gw 5 κ (mC cI cII κ σ1)) H → va_S (gA 5 κ) s.heap H locs → lv_has ls 2 [(0, .ref (κ 0)), (1, .int p1)] → W p l e ({ frames := 5, cells := 0, slots := 0, locals := 113 } : Room) s m args below meth c H locs 0 0 (MQ below (QI D cI cII 5 κ (mC cI cII κ σ') r) args s 0 0 (gA 5 κ)) (F0 m 22 ls [.int z1_22, .ref (κ 0)]) := by
    intro z1_22 hf H locs ls hP hS hl
    rw [hK22] at hf
    obtain ⟨σ2, eσ2, hf⟩ := letb_w hf
    refine g_put (q := 0) (ci := 4) (k := 0) (ref := RX4) (C := RX4) (T := TX4) (N := 12) (index := 26) (ty := .int) (f' := (mC cI cII κ σ2)) S hK hP hκ hA hS hiX4 tyX4_ok nmX4 (by decide) rfl rfl (by decide) rfl (by decide +kernel) rfl (by decide +kernel) rfl rfl (Nat.le_of_ble_eq_true rfl) (fun j _ => by rw [eσ2]; exact mC_p0 j) dX4_isLeast_22 (fun H locs hP hS => ?_)
    refine lv_aload_n hx hb dX4_isLeast_25 rfl (lv_at hl 0 rfl) ?_
    refine g_get (q := 0) (ci := 4) (k := 0) (ref := RX4) (C := RX4) (T := TX4) (N := 12) (index := 26) (v := .int ((σ2.1 0))) S hK hP hiX4 (by decide) rfl rfl (by decide) rfl (by decide +kernel) rfl dX4_isLeast_26 ?_
    obtain ⟨K44, hK44, hf⟩ := letb_w hf
    have J44 : ∀ (_u : Unit), K44 _u = some (r, σ') → ∀ (H : Heap) (locs : List Loc) (ls : Array Slot), va_P D vwCl (gw 5 κ (mC cI cII κ σ2)) H → va_S (gA 5 κ) s.heap H locs → lv_has ls 2 [] → W p l e ({ frames := 5, cells := 0, slots := 0, locals := 113 } : Room) s m args below meth c H locs 0 0 (MQ below (QI D cI cII 5 κ (mC cI cII κ σ') r) args s 0 0 (gA 5 κ)) (F0 m 44 ls []) := by
      intro _u hf H locs ls hP hS hl
      rw [hK44] at hf
      refine lv_iconst (v := 0) hx hb dX4_isLeast_44 (by decide) ?_
      obtain ⟨w9, hw9, hf⟩ := obw hf
      obtain ⟨h8, h9⟩ := Prod.mk.inj (Option.some.inj hf)
      subst h8
      subst h9
      exact g_zret S hr hlk hK hP hS hw9 dX4_isLeast_45
    refine lv_if_ne (tgt := 44) hx hb dX4_isLeast_29 (by decide) (fun c29 => ?_) (fun c29 => ?_)
    · have hf := iteT c29 hf
      exact J44 _ hf _ _ _ hP hS (lv_sub hl [] rfl)
    · have hf := iteN c29 hf
      refine lv_aload_n hx hb dX4_isLeast_32 rfl (lv_at hl 0 rfl) ?_
      refine lv_iload_n hx hb dX4_isLeast_33 rfl (lv_at hl 1 rfl) ?_
      obtain ⟨v3, hq34, hf⟩ := obw hf
      refine g_calli (va_runV (As := [.int p1]) (rest := []) S (met_X4_isSmallest l D cI cII κ hκ σ2 p1 v3 hq34) (cwV 1 S.2.2.2.2 gX4_isLeast_X4_isSmallest rfl rfl rfl (by decide +kernel) ⟨Nat.le_of_ble_eq_true rfl, Nat.le_of_ble_eq_true rfl⟩) (g_preV (N := 12) (T := TX4) hK hP (Nat.le_refl _) (by decide) rfl rfl) rfl rfl hl.1 rfl (lv_room (Nat.le_of_ble_eq_true rfl)) dX4_isLeast_34 ⟨Nat.le_of_ble_eq_true rfl, Nat.le_of_ble_eq_true rfl⟩) (Nat.le_refl _) hκ hA hP hS (fun j h1 h2 => absurd h2 (Nat.not_lt.mpr h1)) (fun H locs hP hS => ?_)
      refine lv_if_eq (tgt := 44) hx hb dX4_isLeast_37 (by decide) (fun c37 => ?_) (fun c37 => ?_)
      · have hf := iteT c37 hf
        exact J44 _ hf _ _ _ hP hS (lv_sub hl [] rfl)
      · have hf := iteF c37 hf
        refine lv_iconst (v := 1) hx hb dX4_isLeast_40 (by decide) ?_
        refine lv_goto (tgt := 45) hx hb dX4_isLeast_41 (by decide) ?_
        obtain ⟨w9, hw9, hf⟩ := obw hf
        obtain ⟨h8, h9⟩ := Prod.mk.inj (Option.some.inj hf)
        subst h8
        subst h9
        exact g_zret S hr hlk hK hP hS hw9 dX4_isLeast_45
  obtain ⟨K21, hK21, hf⟩ := letb_w hf
  have J21 : ∀ (_u : Unit), K21 _u = some (r, σ') → ∀ (H : Heap) (locs : List Loc) (ls : Array Slot), va_P D vwCl (gw 5 κ (mC cI cII κ σ1)) H → va_S (gA 5 κ) s.heap H locs → lv_has ls 2 [(0, .ref (κ 0)), (1, .int p1)] → W p l e ({ frames := 5, cells := 0, slots := 0, locals := 113 } : Room) s m args below meth c H locs 0 0 (MQ below (QI D cI cII 5 κ (mC cI cII κ σ') r) args s 0 0 (gA 5 κ)) (F0 m 21 ls [.ref (κ 0)]) := by
    intro _u hf H locs ls hP hS hl
    rw [hK21] at hf
    refine lv_iconst (v := 1) hx hb dX4_isLeast_21 (by decide) ?_
    exact J22 _ hf _ _ _ hP hS (lv_sub hl [0, 1] rfl)
  refine lv_if_lt (tgt := 21) hx hb dX4_isLeast_6 (by decide) (fun c6 => ?_) (fun c6 => ?_)
  · have hf := iteT c6 hf
    exact J21 _ hf _ _ _ hP hS (lv_sub hl [0, 1] rfl)
  · have hf := iteF c6 hf
    refine lv_iload_n hx hb dX4_isLeast_9 rfl (lv_at hl 1 rfl) ?_
    refine lv_aload_n hx hb dX4_isLeast_10 rfl (lv_at hl 0 rfl) ?_
    refine g_get (q := 0) (ci := 4) (k := 4) (ref := RX4) (C := RX4) (T := TX4) (N := 12) (index := 67) (v := .int ((σ1.1 3))) S hK hP hiX4 (by decide) rfl rfl (by decide) rfl (by decide +kernel) rfl dX4_isLeast_11 ?_
    refine lv_icmp_ge (tgt := 21) hx hb dX4_isLeast_14 (by decide) (fun c14 => ?_) (fun c14 => ?_)
    · have hf := iteT c14 hf
      exact J21 _ hf _ _ _ hP hS (lv_sub hl [0, 1] rfl)
    · have hf := iteF c14 hf
      refine lv_iconst (v := 0) hx hb dX4_isLeast_17 (by decide) ?_
      refine lv_goto (tgt := 22) hx hb dX4_isLeast_18 (by decide) ?_
      exact J22 _ hf _ _ _ hP hS (lv_sub hl [0, 1] rfl)

set_option maxRecDepth 100000 in
set_option maxHeartbeats 4000000 in
theorem met_X4_ends (l : Launch) (D : va_G) (cI cII : ClassId) (κ : Nat → Nat) (hκ : Inj 5 κ) (σ : SX) (p1 : Int32) (p2 : Int32) (r : Int32) (hf : fn_X4_ends σ p1 p2 = some r) : Met l yX4_ends wsX4_ends ({ frames := 1, cells := 0, slots := 0, locals := 22 } : Room) (va_Pc [.ref (κ 0), .int p1, .int p2] (mP D cI cII κ σ)) (QI D cI cII 5 κ (mC cI cII κ σ) r) 0 0 (gA 5 κ) := by
  refine g_enter (cc := cX4_ends) (maxL := 5) (ret := (some .int)) (by decide) rfl (Nat.le_of_ble_eq_true rfl) ?_
  intro p e s m args below meth c ls S hr hlk _ hB hl
  have S : CallFix p m c cX4_ends 5 s args wsX4_ends RX4 := S
  obtain ⟨hP, hK⟩ := hB
  have hl : lv_has ls 5 [(0, .ref (κ 0)), (1, .int p1), (2, .int p2)] := hl
  have hS : va_S (gA 5 κ) s.heap s.heap [] := va_S.rf
  have hA : ∀ k, k < 5 → gA 5 κ (κ k) := gA_in
  obtain ⟨hx, hb, hml, hown, hts⟩ := id S
  have hiX4 : ∀ w ∈ u_ws RX4 TX4 12, w ∈ wsX4_ends := by decide +kernel
  unfold fn_X4_ends at hf
  refine lv_iconst (v := 0) hx hb dX4_ends_0 (by decide) ?_
  obtain ⟨v1, ev1, hf⟩ := letb_w hf
  refine lv_nmi ev1 ?_
  refine lv_istore_n (lv' := [(3, .int v1), (0, .ref (κ 0)), (1, .int p1), (2, .int p2)]) hx hb dX4_ends_1 rfl hl (by decide) rfl (fun ls hl => ?_)
  refine lv_iconst (v := 0) hx hb dX4_ends_2 (by decide) ?_
  obtain ⟨v2, ev2, hf⟩ := letb_w hf
  refine lv_nmi ev2 ?_
  refine lv_istore (lv' := [(4, .int v2), (3, .int v1), (0, .ref (κ 0)), (1, .int p1), (2, .int p2)]) hx hb dX4_ends_3 hl (by decide) rfl (fun ls hl => ?_)
  refine loopF_w (P := fun (g : Int32 → Int32 → Option (Int32)) => ∀ (x3_5 : Int32) (x4_5 : Int32), g x3_5 x4_5 = some r → ∀ (H : Heap) (locs : List Loc) (ls : Array Slot), va_P D vwCl (gw 5 κ (mC cI cII κ σ)) H → va_S (gA 5 κ) s.heap H locs → lv_has ls 5 [(0, .ref (κ 0)), (1, .int p1), (2, .int p2), (3, .int x3_5), (4, .int x4_5)] → W p l e ({ frames := 1, cells := 0, slots := 0, locals := 22 } : Room) s m args below meth c H locs 0 0 (MQ below (QI D cI cII 5 κ (mC cI cII κ σ) r) args s 0 0 (gA 5 κ)) (F0 m 5 ls [])) (fun _ _ h => by simp at h) ?_ FU _ _ hf _ _ _ hP hS (lv_sub hl [2, 3, 4, 1, 0] rfl)
  intro rec5 ih5 x3_5 x4_5 hf H locs ls hP hS hl
  unfold bd_X4_ends_5 at hf
  refine lv_iload hx hb dX4_ends_5 (lv_at hl 4 rfl) ?_
  refine lv_aload_n hx hb dX4_ends_7 rfl (lv_at hl 0 rfl) ?_
  refine g_get (q := 0) (ci := 4) (k := 1) (ref := RX4) (C := RX4) (T := TX4) (N := 12) (index := 9) (v := .int ((σ.1 1))) S hK hP hiX4 (by decide) rfl rfl (by decide) rfl (by decide +kernel) rfl dX4_ends_8 ?_
  refine lv_icmp_ge (tgt := 52) hx hb dX4_ends_11 (by decide) (fun c11 => ?_) (fun c11 => ?_)
  · have hf := iteT c11 hf
    refine lv_iload_n hx hb dX4_ends_52 rfl (lv_at hl 3 rfl) ?_
    exact g_iret S hr hlk hK hP hS (Option.some.inj hf) dX4_ends_53
  · have hf := iteF c11 hf
    refine lv_aload_n hx hb dX4_ends_14 rfl (lv_at hl 0 rfl) ?_
    refine lv_iload hx hb dX4_ends_15 (lv_at hl 4 rfl) ?_
    refine lv_iload_n hx hb dX4_ends_17 rfl (lv_at hl 1 rfl) ?_
    obtain ⟨v3, hq18, hf⟩ := obw hf
    refine g_calli (va_runV (As := [.int x4_5, .int p1]) (rest := []) S (met_X4_to l D cI cII κ hκ σ x4_5 p1 v3 hq18) (cwV 2 S.2.2.2.2 gX4_ends_X4_to rfl rfl rfl (by decide +kernel) ⟨Nat.le_of_ble_eq_true rfl, Nat.le_of_ble_eq_true rfl⟩) (g_preV (N := 12) (T := TX4) hK hP (Nat.le_refl _) (by decide) rfl rfl) rfl rfl hl.1 rfl (lv_room (Nat.le_of_ble_eq_true rfl)) dX4_ends_18 ⟨Nat.le_of_ble_eq_true rfl, Nat.le_of_ble_eq_true rfl⟩) (Nat.le_refl _) hκ hA hP hS (fun j h1 h2 => absurd h2 (Nat.not_lt.mpr h1)) (fun H locs hP hS => ?_)
    refine lv_iconst (v := -1) hx hb dX4_ends_21 (by decide) ?_
    obtain ⟨K46, hK46, hf⟩ := letb_w hf
    have J46 : ∀ (y3_46 : Int32), K46 y3_46 = some r → ∀ (H : Heap) (locs : List Loc) (ls : Array Slot), va_P D vwCl (gw 5 κ (mC cI cII κ σ)) H → va_S (gA 5 κ) s.heap H locs → lv_has ls 5 [(0, .ref (κ 0)), (1, .int p1), (2, .int p2), (3, .int y3_46), (4, .int x4_5)] → W p l e ({ frames := 1, cells := 0, slots := 0, locals := 22 } : Room) s m args below meth c H locs 0 0 (MQ below (QI D cI cII 5 κ (mC cI cII κ σ) r) args s 0 0 (gA 5 κ)) (F0 m 46 ls []) := by
      intro y3_46 hf H locs ls hP hS hl
      rw [hK46] at hf
      obtain ⟨v4, ev4, hf⟩ := letb_w hf
      refine lv_iinc (v := v4) (lv' := [(4, .int v4), (0, .ref (κ 0)), (1, .int p1), (2, .int p2), (3, .int y3_46)]) hx hb dX4_ends_46 hl (k := 4) rfl (by rw [ev4]; rfl) (by decide) rfl (fun ls hl => ?_)
      refine lv_goto (tgt := 5) hx hb dX4_ends_49 (by decide) ?_
      exact ih5 _ _ hf _ _ _ hP hS (lv_sub hl [1, 2, 3, 4, 0] rfl)
    refine lv_icmp_eq (tgt := 46) hx hb dX4_ends_22 (by decide) (fun c22 => ?_) (fun c22 => ?_)
    · have hf := iteT c22 hf
      exact J46 _ hf _ _ _ hP hS (lv_sub hl [0, 1, 2, 3, 4] rfl)
    · have hf := iteF c22 hf
      refine lv_iload_n hx hb dX4_ends_25 rfl (lv_at hl 3 rfl) ?_
      refine lv_iconst (v := 1) hx hb dX4_ends_26 (by decide) ?_
      refine lv_iload_n hx hb dX4_ends_27 rfl (lv_at hl 2 rfl) ?_
      obtain ⟨K43, hK43, hf⟩ := letb_w hf
      have J43 : ∀ (z2_43 : Int32), K43 z2_43 = some r → ∀ (H : Heap) (locs : List Loc) (ls : Array Slot), va_P D vwCl (gw 5 κ (mC cI cII κ σ)) H → va_S (gA 5 κ) s.heap H locs → lv_has ls 5 [(0, .ref (κ 0)), (1, .int p1), (2, .int p2), (4, .int x4_5)] → W p l e ({ frames := 1, cells := 0, slots := 0, locals := 22 } : Room) s m args below meth c H locs 0 0 (MQ below (QI D cI cII 5 κ (mC cI cII κ σ) r) args s 0 0 (gA 5 κ)) (F0 m 43 ls [.int z2_43, .int 1, .int x3_5]) := by
        intro z2_43 hf H locs ls hP hS hl
        rw [hK43] at hf
        refine lv_ishl hx hb dX4_ends_43 ?_
        refine lv_ior hx hb dX4_ends_44 ?_
        obtain ⟨v5, ev5, hf⟩ := letb_w hf
        refine lv_nmi ev5 ?_
        refine lv_istore_n (lv' := [(3, .int v5), (0, .ref (κ 0)), (1, .int p1), (2, .int p2), (4, .int x4_5)]) hx hb dX4_ends_45 rfl hl (by decide) rfl (fun ls hl => ?_)
        exact J46 _ hf _ _ _ hP hS (lv_sub hl [1, 2, 3, 0, 4] rfl)
      refine lv_if_eq (tgt := 36) hx hb dX4_ends_28 (by decide) (fun c28 => ?_) (fun c28 => ?_)
      · have hf := iteT c28 hf
        refine lv_aload_n hx hb dX4_ends_36 rfl (lv_at hl 0 rfl) ?_
        refine lv_iload hx hb dX4_ends_37 (lv_at hl 4 rfl) ?_
        refine lv_iload_n hx hb dX4_ends_39 rfl (lv_at hl 1 rfl) ?_
        obtain ⟨v6, hq40, hf⟩ := obw hf
        refine g_calli (va_runV (As := [.int x4_5, .int p1]) (rest := [.int 1, .int x3_5]) S (met_X4_to l D cI cII κ hκ σ x4_5 p1 v6 hq40) (cwV 2 S.2.2.2.2 gX4_ends_X4_to rfl rfl rfl (by decide +kernel) ⟨Nat.le_of_ble_eq_true rfl, Nat.le_of_ble_eq_true rfl⟩) (g_preV (N := 12) (T := TX4) hK hP (Nat.le_refl _) (by decide) rfl rfl) rfl rfl hl.1 rfl (lv_room (Nat.le_of_ble_eq_true rfl)) dX4_ends_40 ⟨Nat.le_of_ble_eq_true rfl, Nat.le_of_ble_eq_true rfl⟩) (Nat.le_refl _) hκ hA hP hS (fun j h1 h2 => absurd h2 (Nat.not_lt.mpr h1)) (fun H locs hP hS => ?_)
        exact J43 _ hf _ _ _ hP hS (lv_sub hl [0, 1, 2, 4] rfl)
      · have hf := iteF c28 hf
        refine lv_iload hx hb dX4_ends_31 (lv_at hl 4 rfl) ?_
        refine lv_goto (tgt := 43) hx hb dX4_ends_33 (by decide) ?_
        exact J43 _ hf _ _ _ hP hS (lv_sub hl [0, 1, 2, 4] rfl)

set_option maxRecDepth 100000 in
set_option maxHeartbeats 4000000 in
theorem met_X4_grow (l : Launch) (D : va_G) (cI cII : ClassId) (κ : Nat → Nat) (hκ : Inj 5 κ) (σ : SX) (p1 : Int32) (r : Int32) (σ' : SX) (hf : fn_X4_grow σ p1 = some (r, σ')) : Met l yX4_grow wsX4_grow ({ frames := 3, cells := 0, slots := 0, locals := 71 } : Room) (va_Pc [.ref (κ 0), .int p1] (mP D cI cII κ σ)) (QI D cI cII 5 κ (mC cI cII κ σ') r) 0 0 (gA 5 κ) := by
  refine g_enter (cc := cX4_grow) (maxL := 7) (ret := (some .int)) (by decide) rfl (Nat.le_of_ble_eq_true rfl) ?_
  intro p e s m args below meth c ls S hr hlk _ hB hl
  have S : CallFix p m c cX4_grow 7 s args wsX4_grow RX4 := S
  obtain ⟨hP, hK⟩ := hB
  have hl : lv_has ls 7 [(0, .ref (κ 0)), (1, .int p1)] := hl
  have hS : va_S (gA 5 κ) s.heap s.heap [] := va_S.rf
  have hA : ∀ k, k < 5 → gA 5 κ (κ k) := gA_in
  obtain ⟨hx, hb, hml, hown, hts⟩ := id S
  have hiX4 : ∀ w ∈ u_ws RX4 TX4 12, w ∈ wsX4_grow := by decide +kernel
  unfold fn_X4_grow at hf
  refine lv_aload_n hx hb dX4_grow_0 rfl (lv_at hl 0 rfl) ?_
  refine lv_iconst (v := 0) hx hb dX4_grow_1 (by decide) ?_
  obtain ⟨σ1, eσ1, hf⟩ := letb_w hf
  refine g_put (q := 0) (ci := 4) (k := 0) (ref := RX4) (C := RX4) (T := TX4) (N := 12) (index := 26) (ty := .int) (f' := (mC cI cII κ σ1)) S hK hP hκ hA hS hiX4 tyX4_ok nmX4 (by decide) rfl rfl (by decide) rfl (by decide +kernel) rfl (by decide +kernel) rfl rfl (Nat.le_of_ble_eq_true rfl) (fun j _ => by rw [eσ1]; exact mC_p0 j) dX4_grow_2 (fun H locs hP hS => ?_)
  refine lv_aload_n hx hb dX4_grow_5 rfl (lv_at hl 0 rfl) ?_
  refine lv_iload_n hx hb dX4_grow_6 rfl (lv_at hl 1 rfl) ?_
  obtain ⟨v2, hq7, hf⟩ := obw hf
  refine g_calli (va_runV (As := [.int p1]) (rest := []) S (met_X4_isSet l D cI cII κ hκ σ1 p1 v2 hq7) (cwV 1 S.2.2.2.2 gX4_grow_X4_isSet rfl rfl rfl (by decide +kernel) ⟨Nat.le_of_ble_eq_true rfl, Nat.le_of_ble_eq_true rfl⟩) (g_preV (N := 12) (T := TX4) hK hP (Nat.le_refl _) (by decide) rfl rfl) rfl rfl hl.1 rfl (lv_room (Nat.le_of_ble_eq_true rfl)) dX4_grow_7 ⟨Nat.le_of_ble_eq_true rfl, Nat.le_of_ble_eq_true rfl⟩) (Nat.le_refl _) hκ hA hP hS (fun j h1 h2 => absurd h2 (Nat.not_lt.mpr h1)) (fun H locs hP hS => ?_)
  refine lv_if_ne (tgt := 19) hx hb dX4_grow_10 (by decide) (fun c10 => ?_) (fun c10 => ?_)
  · have hf := iteT c10 hf
    refine lv_iload_n hx hb dX4_grow_19 rfl (lv_at hl 1 rfl) ?_
    obtain ⟨v3, ev3, hf⟩ := letb_w hf
    refine lv_nmi ev3 ?_
    refine lv_istore_n (lv' := [(2, .int v3), (0, .ref (κ 0)), (1, .int p1)]) hx hb dX4_grow_20 rfl hl (by decide) rfl (fun ls hl => ?_)
    refine lv_aload_n hx hb dX4_grow_21 rfl (lv_at hl 1 rfl) ?_
    refine lv_iload_n hx hb dX4_grow_22 rfl (lv_at hl 0 rfl) ?_
    obtain ⟨v4, hq23, hf⟩ := obw hf
    refine g_calli (va_runV (As := [.int v3]) (rest := []) S (met_X4_mixed l D cI cII κ hκ σ1 v3 v4 hq23) (cwV 1 S.2.2.2.2 gX4_grow_X4_mixed rfl rfl rfl (by decide +kernel) ⟨Nat.le_of_ble_eq_true rfl, Nat.le_of_ble_eq_true rfl⟩) (g_preV (N := 12) (T := TX4) hK hP (Nat.le_refl _) (by decide) rfl rfl) rfl rfl hl.1 rfl (lv_room (Nat.le_of_ble_eq_true rfl)) dX4_grow_23 ⟨Nat.le_of_ble_eq_true rfl, Nat.le_of_ble_eq_true rfl⟩) (Nat.le_refl _) hκ hA hP hS (fun j h1 h2 => absurd h2 (Nat.not_lt.mpr h1)) (fun H locs hP hS => ?_)
    obtain ⟨v5, ev5, hf⟩ := letb_w hf
    refine lv_nmi ev5 ?_
    refine lv_istore_n (lv' := [(3, .int v5), (2, .int v3), (0, .ref (κ 0)), (1, .int p1)]) hx hb dX4_grow_26 rfl hl (by decide) rfl (fun ls hl => ?_)
    refine loopF_w (P := fun (g : Int32 → Int32 → Option (Int32 × SX)) => ∀ (x2_27 : Int32) (x3_27 : Int32), g x2_27 x3_27 = some (r, σ') → ∀ (H : Heap) (locs : List Loc) (ls : Array Slot), va_P D vwCl (gw 5 κ (mC cI cII κ σ1)) H → va_S (gA 5 κ) s.heap H locs → lv_has ls 7 [(0, .ref (κ 0)), (2, .int x2_27), (3, .int x3_27)] → W p l e ({ frames := 3, cells := 0, slots := 0, locals := 71 } : Room) s m args below meth c H locs 0 0 (MQ below (QI D cI cII 5 κ (mC cI cII κ σ') r) args s 0 0 (gA 5 κ)) (F0 m 27 ls [])) (fun _ _ h => by simp at h) ?_ FU _ _ hf _ _ _ hP hS (lv_sub hl [2, 1, 0] rfl)
    intro rec27 ih27 x2_27 x3_27 hf H locs ls hP hS hl
    unfold bd_X4_grow_27 at hf
    refine lv_iload_n hx hb dX4_grow_27 rfl (lv_at hl 2 rfl) ?_
    refine lv_iconst (v := -1) hx hb dX4_grow_28 (by decide) ?_
    refine lv_icmp_eq (tgt := 102) hx hb dX4_grow_29 (by decide) (fun c29 => ?_) (fun c29 => ?_)
    · have hf := iteT c29 hf
      refine lv_iload_n hx hb dX4_grow_102 rfl (lv_at hl 1 rfl) ?_
      obtain ⟨h8, h9⟩ := Prod.mk.inj (Option.some.inj hf)
      subst h9
      exact g_iret S hr hlk hK hP hS h8 dX4_grow_103
    · have hf := iteF c29 hf
      refine lv_aload_n hx hb dX4_grow_32 rfl (lv_at hl 0 rfl) ?_
      refine lv_iload_n hx hb dX4_grow_33 rfl (lv_at hl 2 rfl) ?_
      refine lv_iconst (v := 1) hx hb dX4_grow_34 (by decide) ?_
      obtain ⟨v6, hq35, hf⟩ := obw hf
      refine g_calli (va_runV (As := [.int x3_27, .int 1]) (rest := []) S (met_X4_ends l D cI cII κ hκ σ1 x3_27 1 v6 hq35) (cwV 2 S.2.2.2.2 gX4_grow_X4_ends rfl rfl rfl (by decide +kernel) ⟨Nat.le_of_ble_eq_true rfl, Nat.le_of_ble_eq_true rfl⟩) (g_preV (N := 12) (T := TX4) hK hP (Nat.le_refl _) (by decide) rfl rfl) rfl rfl hl.1 rfl (lv_room (Nat.le_of_ble_eq_true rfl)) dX4_grow_35 ⟨Nat.le_of_ble_eq_true rfl, Nat.le_of_ble_eq_true rfl⟩) (Nat.le_refl _) hκ hA hP hS (fun j h1 h2 => absurd h2 (Nat.not_lt.mpr h1)) (fun H locs hP hS => ?_)
      obtain ⟨v7, ev7, hf⟩ := letb_w hf
      refine lv_nmi ev7 ?_
      refine lv_istore (lv' := [(4, .int v7), (0, .ref (κ 0)), (2, .int x2_27), (3, .int x3_27)]) hx hb dX4_grow_38 hl (by decide) rfl (fun ls hl => ?_)
      refine lv_aload_n hx hb dX4_grow_40 rfl (lv_at hl 1 rfl) ?_
      refine lv_iload_n hx hb dX4_grow_41 rfl (lv_at hl 3 rfl) ?_
      refine lv_iconst (v := 0) hx hb dX4_grow_42 (by decide) ?_
      obtain ⟨v8, hq43, hf⟩ := obw hf
      refine g_calli (va_runV (As := [.int x3_27, .int 0]) (rest := []) S (met_X4_ends l D cI cII κ hκ σ1 x3_27 0 v8 hq43) (cwV 2 S.2.2.2.2 gX4_grow_X4_ends rfl rfl rfl (by decide +kernel) ⟨Nat.le_of_ble_eq_true rfl, Nat.le_of_ble_eq_true rfl⟩) (g_preV (N := 12) (T := TX4) hK hP (Nat.le_refl _) (by decide) rfl rfl) rfl rfl hl.1 rfl (lv_room (Nat.le_of_ble_eq_true rfl)) dX4_grow_43 ⟨Nat.le_of_ble_eq_true rfl, Nat.le_of_ble_eq_true rfl⟩) (Nat.le_refl _) hκ hA hP hS (fun j h1 h2 => absurd h2 (Nat.not_lt.mpr h1)) (fun H locs hP hS => ?_)
      obtain ⟨v9, ev9, hf⟩ := letb_w hf
      refine lv_nmi ev9 ?_
      refine lv_istore (lv' := [(5, .int v9), (4, .int v7), (0, .ref (κ 0)), (2, .int x2_27), (3, .int x3_27)]) hx hb dX4_grow_46 hl (by decide) rfl (fun ls hl => ?_)
      refine lv_iload hx hb dX4_grow_48 (lv_at hl 1 rfl) ?_
      refine lv_iload_n hx hb dX4_grow_50 rfl (lv_at hl 3 rfl) ?_
      refine lv_iand hx hb dX4_grow_51 ?_
      obtain ⟨K76, hK76, hf⟩ := letb_w hf
      have J76 : ∀ (z0_76 : Int32), K76 z0_76 = some (r, σ') → ∀ (H : Heap) (locs : List Loc) (ls : Array Slot), va_P D vwCl (gw 5 κ (mC cI cII κ σ1)) H → va_S (gA 5 κ) s.heap H locs → lv_has ls 7 [(0, .ref (κ 0)), (2, .int x2_27), (4, .int v7), (5, .int v9)] → W p l e ({ frames := 3, cells := 0, slots := 0, locals := 71 } : Room) s m args below meth c H locs 0 0 (MQ below (QI D cI cII 5 κ (mC cI cII κ σ') r) args s 0 0 (gA 5 κ)) (F0 m 76 ls [.int z0_76]) := by
        intro z0_76 hf H locs ls hP hS hl
        rw [hK76] at hf
        obtain ⟨v10, ev10, hf⟩ := letb_w hf
        refine lv_nmi ev10 ?_
        refine lv_istore (lv' := [(6, .int v10), (0, .ref (κ 0)), (2, .int x2_27), (4, .int v7), (5, .int v9)]) hx hb dX4_grow_76 hl (by decide) rfl (fun ls hl => ?_)
        refine lv_iload_n hx hb dX4_grow_78 rfl (lv_at hl 2 rfl) ?_
        refine lv_iload hx hb dX4_grow_79 (lv_at hl 0 rfl) ?_
        obtain ⟨K91, hK91, hf⟩ := letb_w hf
        have J91 : ∀ (z1_91 : Int32), K91 z1_91 = some (r, σ') → ∀ (H : Heap) (locs : List Loc) (ls : Array Slot), va_P D vwCl (gw 5 κ (mC cI cII κ σ1)) H → va_S (gA 5 κ) s.heap H locs → lv_has ls 7 [(0, .ref (κ 0))] → W p l e ({ frames := 3, cells := 0, slots := 0, locals := 71 } : Room) s m args below meth c H locs 0 0 (MQ below (QI D cI cII 5 κ (mC cI cII κ σ') r) args s 0 0 (gA 5 κ)) (F0 m 91 ls [.int z1_91, .int x2_27]) := by
          intro z1_91 hf H locs ls hP hS hl
          rw [hK91] at hf
          refine lv_ior hx hb dX4_grow_91 ?_
          obtain ⟨v11, ev11, hf⟩ := letb_w hf
          refine lv_nmi ev11 ?_
          refine lv_istore_n (lv' := [(2, .int v11), (0, .ref (κ 0))]) hx hb dX4_grow_92 rfl hl (by decide) rfl (fun ls hl => ?_)
          refine lv_aload_n hx hb dX4_grow_93 rfl (lv_at hl 1 rfl) ?_
          refine lv_iload_n hx hb dX4_grow_94 rfl (lv_at hl 0 rfl) ?_
          obtain ⟨v12, hq95, hf⟩ := obw hf
          refine g_calli (va_runV (As := [.int v11]) (rest := []) S (met_X4_mixed l D cI cII κ hκ σ1 v11 v12 hq95) (cwV 1 S.2.2.2.2 gX4_grow_X4_mixed rfl rfl rfl (by decide +kernel) ⟨Nat.le_of_ble_eq_true rfl, Nat.le_of_ble_eq_true rfl⟩) (g_preV (N := 12) (T := TX4) hK hP (Nat.le_refl _) (by decide) rfl rfl) rfl rfl hl.1 rfl (lv_room (Nat.le_of_ble_eq_true rfl)) dX4_grow_95 ⟨Nat.le_of_ble_eq_true rfl, Nat.le_of_ble_eq_true rfl⟩) (Nat.le_refl _) hκ hA hP hS (fun j h1 h2 => absurd h2 (Nat.not_lt.mpr h1)) (fun H locs hP hS => ?_)
          obtain ⟨v13, ev13, hf⟩ := letb_w hf
          refine lv_nmi ev13 ?_
          refine lv_istore_n (lv' := [(3, .int v13), (2, .int v11), (0, .ref (κ 0))]) hx hb dX4_grow_98 rfl hl (by decide) rfl (fun ls hl => ?_)
          refine lv_goto (tgt := 27) hx hb dX4_grow_99 (by decide) ?_
          exact ih27 _ _ hf _ _ _ hP hS (lv_sub hl [2, 1, 0] rfl)
        refine lv_if_eq (tgt := 89) hx hb dX4_grow_81 (by decide) (fun c81 => ?_) (fun c81 => ?_)
        · have hf := iteT c81 hf
          refine lv_iload hx hb dX4_grow_89 (lv_at hl 4 rfl) ?_
          exact J91 _ hf _ _ _ hP hS (lv_sub hl [1] rfl)
        · have hf := iteF c81 hf
          refine lv_iload hx hb dX4_grow_84 (lv_at hl 3 rfl) ?_
          refine lv_goto (tgt := 91) hx hb dX4_grow_86 (by decide) ?_
          exact J91 _ hf _ _ _ hP hS (lv_sub hl [1] rfl)
      obtain ⟨K71, hK71, hf⟩ := letb_w hf
      have J71 : ∀ (_u : Unit), K71 _u = some (r, σ') → ∀ (H : Heap) (locs : List Loc) (ls : Array Slot), va_P D vwCl (gw 5 κ (mC cI cII κ σ1)) H → va_S (gA 5 κ) s.heap H locs → lv_has ls 7 [(0, .ref (κ 0)), (2, .int x2_27), (4, .int v7), (5, .int v9)] → W p l e ({ frames := 3, cells := 0, slots := 0, locals := 71 } : Room) s m args below meth c H locs 0 0 (MQ below (QI D cI cII 5 κ (mC cI cII κ σ') r) args s 0 0 (gA 5 κ)) (F0 m 71 ls []) := by
        intro _u hf H locs ls hP hS hl
        rw [hK71] at hf
        refine lv_iconst (v := 1) hx hb dX4_grow_71 (by decide) ?_
        refine lv_goto (tgt := 76) hx hb dX4_grow_72 (by decide) ?_
        exact J76 _ hf _ _ _ hP hS (lv_sub hl [0, 1, 2, 3] rfl)
      obtain ⟨K62, hK62, hf⟩ := letb_w hf
      have J62 : ∀ (_u : Unit), K62 _u = some (r, σ') → ∀ (H : Heap) (locs : List Loc) (ls : Array Slot), va_P D vwCl (gw 5 κ (mC cI cII κ σ1)) H → va_S (gA 5 κ) s.heap H locs → lv_has ls 7 [(0, .ref (κ 0)), (2, .int x2_27), (4, .int v7), (5, .int v9)] → W p l e ({ frames := 3, cells := 0, slots := 0, locals := 71 } : Room) s m args below meth c H locs 0 0 (MQ below (QI D cI cII 5 κ (mC cI cII κ σ') r) args s 0 0 (gA 5 κ)) (F0 m 62 ls []) := by
        intro _u hf H locs ls hP hS hl
        rw [hK62] at hf
        refine lv_iload hx hb dX4_grow_62 (lv_at hl 3 rfl) ?_
        refine lv_iload_n hx hb dX4_grow_64 rfl (lv_at hl 1 rfl) ?_
        refine lv_iconst (v := -1) hx hb dX4_grow_65 (by decide) ?_
        refine lv_ixor hx hb dX4_grow_66 ?_
        refine lv_iand hx hb dX4_grow_67 ?_
        refine lv_if_ne (tgt := 75) hx hb dX4_grow_68 (by decide) (fun c68 => ?_) (fun c68 => ?_)
        · have hf := iteT c68 hf
          refine lv_iconst (v := 0) hx hb dX4_grow_75 (by decide) ?_
          exact J76 _ hf _ _ _ hP hS (lv_sub hl [0, 1, 2, 3] rfl)
        · have hf := iteN c68 hf
          exact J71 _ hf _ _ _ hP hS (lv_sub hl [0, 1, 2, 3] rfl)
      refine lv_if_eq (tgt := 62) hx hb dX4_grow_52 (by decide) (fun c52 => ?_) (fun c52 => ?_)
      · have hf := iteT c52 hf
        exact J62 _ hf _ _ _ hP hS (lv_sub hl [2, 3, 1, 0] rfl)
      · have hf := iteF c52 hf
        refine lv_iload hx hb dX4_grow_55 (lv_at hl 0 rfl) ?_
        refine lv_iload_n hx hb dX4_grow_57 rfl (lv_at hl 3 rfl) ?_
        refine lv_iand hx hb dX4_grow_58 ?_
        refine lv_if_eq (tgt := 71) hx hb dX4_grow_59 (by decide) (fun c59 => ?_) (fun c59 => ?_)
        · have hf := iteT c59 hf
          exact J71 _ hf _ _ _ hP hS (lv_sub hl [2, 3, 1, 0] rfl)
        · have hf := iteF c59 hf
          exact J62 _ hf _ _ _ hP hS (lv_sub hl [2, 3, 1, 0] rfl)
  · have hf := iteN c10 hf
    refine lv_aload_n hx hb dX4_grow_13 rfl (lv_at hl 0 rfl) ?_
    refine lv_iconst (v := 1) hx hb dX4_grow_14 (by decide) ?_
    obtain ⟨v15, σ14, hq15, hf⟩ := bind2_w hf
    refine g_calli (va_runV (As := [.int 1]) (rest := []) S (met_X4_fail l D cI cII κ hκ σ1 1 v15 σ14 hq15) (cwV 1 S.2.2.2.2 gX4_grow_X4_fail rfl rfl rfl (by decide +kernel) ⟨Nat.le_of_ble_eq_true rfl, Nat.le_of_ble_eq_true rfl⟩) (g_preV (N := 12) (T := TX4) hK hP (Nat.le_refl _) (by decide) rfl rfl) rfl rfl hl.1 rfl (lv_room (Nat.le_of_ble_eq_true rfl)) dX4_grow_15 ⟨Nat.le_of_ble_eq_true rfl, Nat.le_of_ble_eq_true rfl⟩) (Nat.le_refl _) hκ hA hP hS (fun j h1 h2 => absurd h2 (Nat.not_lt.mpr h1)) (fun H locs hP hS => ?_)
    obtain ⟨h8, h9⟩ := Prod.mk.inj (Option.some.inj hf)
    subst h9
    exact g_iret S hr hlk hK hP hS h8 dX4_grow_18

set_option maxRecDepth 100000 in
set_option maxHeartbeats 4000000 in
theorem met_X4_firstApart (l : Launch) (D : va_G) (cI cII : ClassId) (κ : Nat → Nat) (hκ : Inj 5 κ) (σ : SX) (p1 : Int32) (p2 : Int32) (r : Int32) (σ' : SX) (hf : fn_X4_firstApart σ p1 p2 = some (r, σ')) : Met l yX4_firstApart wsX4_firstApart ({ frames := 5, cells := 0, slots := 0, locals := 113 } : Room) (va_Pc [.ref (κ 0), .int p1, .int p2] (mP D cI cII κ σ)) (QI D cI cII 5 κ (mC cI cII κ σ') r) 0 0 (gA 5 κ) := by
  refine g_enter (cc := cX4_firstApart) (maxL := 4) (ret := (some .int)) (by decide) rfl (Nat.le_of_ble_eq_true rfl) ?_
  intro p e s m args below meth c ls S hr hlk _ hB hl
  have S : CallFix p m c cX4_firstApart 4 s args wsX4_firstApart RX4 := S
  obtain ⟨hP, hK⟩ := hB
  have hl : lv_has ls 4 [(0, .ref (κ 0)), (1, .int p1), (2, .int p2)] := hl
  have hS : va_S (gA 5 κ) s.heap s.heap [] := va_S.rf
  have hA : ∀ k, k < 5 → gA 5 κ (κ k) := gA_in
  obtain ⟨hx, hb, hml, hown, hts⟩ := id S
  have hiX4 : ∀ w ∈ u_ws RX4 TX4 12, w ∈ wsX4_firstApart := by decide +kernel
  unfold fn_X4_firstApart at hf
  refine lv_aload_n hx hb dX4_firstApart_0 rfl (lv_at hl 0 rfl) ?_
  obtain ⟨σ1, hq1, hf⟩ := obw hf
  refine g_callv (va_runV (As := []) (rest := []) S (met_X4_know l D cI cII κ hκ σ σ1 hq1) (cwV 0 S.2.2.2.2 gX4_firstApart_X4_know rfl rfl rfl (by decide +kernel) ⟨Nat.le_of_ble_eq_true rfl, Nat.le_of_ble_eq_true rfl⟩) (g_preV (N := 12) (T := TX4) hK hP (Nat.le_refl _) (by decide) rfl rfl) rfl rfl hl.1 rfl (lv_room (Nat.le_of_ble_eq_true rfl)) dX4_firstApart_1 ⟨Nat.le_of_ble_eq_true rfl, Nat.le_of_ble_eq_true rfl⟩) (Nat.le_refl _) hκ hA hP hS (fun j h1 h2 => absurd h2 (Nat.not_lt.mpr h1)) (fun H locs hP hS => ?_)
  refine lv_iconst (v := 0) hx hb dX4_firstApart_4 (by decide) ?_
  obtain ⟨v2, ev2, hf⟩ := letb_w hf
  refine lv_nmi ev2 ?_
  refine lv_istore_n (lv' := [(3, .int v2), (0, .ref (κ 0)), (1, .int p1), (2, .int p2)]) hx hb dX4_firstApart_5 rfl hl (by decide) rfl (fun ls hl => ?_)
  refine loopF_w (P := fun (g : Int32 → Option (Int32 × SX)) => ∀ (x3_6 : Int32), g x3_6 = some (r, σ') → ∀ (H : Heap) (locs : List Loc) (ls : Array Slot), va_P D vwCl (gw 5 κ (mC cI cII κ σ1)) H → va_S (gA 5 κ) s.heap H locs → lv_has ls 4 [(0, .ref (κ 0)), (1, .int p1), (2, .int p2), (3, .int x3_6)] → W p l e ({ frames := 5, cells := 0, slots := 0, locals := 113 } : Room) s m args below meth c H locs 0 0 (MQ below (QI D cI cII 5 κ (mC cI cII κ σ') r) args s 0 0 (gA 5 κ)) (F0 m 6 ls [])) (fun _ h => by simp at h) ?_ FU _ hf _ _ _ hP hS (lv_sub hl [1, 2, 3, 0] rfl)
  intro rec6 ih6 x3_6 hf H locs ls hP hS hl
  unfold bd_X4_firstApart_6 at hf
  refine lv_iload_n hx hb dX4_firstApart_6 rfl (lv_at hl 3 rfl) ?_
  refine lv_aload_n hx hb dX4_firstApart_7 rfl (lv_at hl 0 rfl) ?_
  refine g_get (q := 0) (ci := 4) (k := 4) (ref := RX4) (C := RX4) (T := TX4) (N := 12) (index := 67) (v := .int ((σ1.1 3))) S hK hP hiX4 (by decide) rfl rfl (by decide) rfl (by decide +kernel) rfl dX4_firstApart_8 ?_
  refine lv_icmp_ge (tgt := 45) hx hb dX4_firstApart_11 (by decide) (fun c11 => ?_) (fun c11 => ?_)
  · have hf := iteT c11 hf
    refine lv_iconst (v := -1) hx hb dX4_firstApart_45 (by decide) ?_
    obtain ⟨h8, h9⟩ := Prod.mk.inj (Option.some.inj hf)
    subst h9
    exact g_iret S hr hlk hK hP hS h8 dX4_firstApart_46
  · have hf := iteF c11 hf
    refine lv_aload_n hx hb dX4_firstApart_14 rfl (lv_at hl 0 rfl) ?_
    refine g_get (q := 0) (ci := 4) (k := 5) (ref := RX4) (C := RX4) (T := TX4) (N := 12) (index := 17) (v := .ref (κ 2)) S hK hP hiX4 (by decide) rfl rfl (by decide) rfl (by decide +kernel) rfl dX4_firstApart_15 ?_
    refine lv_iload_n hx hb dX4_firstApart_18 rfl (lv_at hl 3 rfl) ?_
    obtain ⟨v3, hv3, hf⟩ := obw hf
    refine g_ald (a := 2) (len := 4096) S hK hP (by decide) (mC_arr (by decide) rfl) hv3 dX4_firstApart_19 ?_
    refine lv_iload_n hx hb dX4_firstApart_20 rfl (lv_at hl 1 rfl) ?_
    obtain ⟨v4, hq21, hf⟩ := obw hf
    refine g_calli (va_runS (As := [.int v3, .int p1]) (rest := []) S (met_X4_has l D cI cII κ hκ σ1 v3 p1 v4 hq21) (va_cwS 2 S.2.2.2.2 gX4_firstApart_X4_has rfl rfl rfl (by decide +kernel) ⟨Nat.le_of_ble_eq_true rfl, Nat.le_of_ble_eq_true rfl⟩) (g_preS hK hP (Nat.le_refl _)) rfl rfl hl.1 rfl (lv_room (Nat.le_of_ble_eq_true rfl)) dX4_firstApart_21 ⟨Nat.le_of_ble_eq_true rfl, Nat.le_of_ble_eq_true rfl⟩) (Nat.le_refl _) hκ hA hP hS (fun j h1 h2 => absurd h2 (Nat.not_lt.mpr h1)) (fun H locs hP hS => ?_)
    refine lv_aload_n hx hb dX4_firstApart_24 rfl (lv_at hl 0 rfl) ?_
    refine g_get (q := 0) (ci := 4) (k := 5) (ref := RX4) (C := RX4) (T := TX4) (N := 12) (index := 17) (v := .ref (κ 2)) S hK hP hiX4 (by decide) rfl rfl (by decide) rfl (by decide +kernel) rfl dX4_firstApart_25 ?_
    refine lv_iload_n hx hb dX4_firstApart_28 rfl (lv_at hl 3 rfl) ?_
    obtain ⟨v5, hv5, hf⟩ := obw hf
    refine g_ald (a := 2) (len := 4096) S hK hP (by decide) (mC_arr (by decide) rfl) hv5 dX4_firstApart_29 ?_
    refine lv_iload_n hx hb dX4_firstApart_30 rfl (lv_at hl 2 rfl) ?_
    obtain ⟨v6, hq31, hf⟩ := obw hf
    refine g_calli (va_runS (As := [.int v5, .int p2]) (rest := [.int v4]) S (met_X4_has l D cI cII κ hκ σ1 v5 p2 v6 hq31) (va_cwS 2 S.2.2.2.2 gX4_firstApart_X4_has rfl rfl rfl (by decide +kernel) ⟨Nat.le_of_ble_eq_true rfl, Nat.le_of_ble_eq_true rfl⟩) (g_preS hK hP (Nat.le_refl _)) rfl rfl hl.1 rfl (lv_room (Nat.le_of_ble_eq_true rfl)) dX4_firstApart_31 ⟨Nat.le_of_ble_eq_true rfl, Nat.le_of_ble_eq_true rfl⟩) (Nat.le_refl _) hκ hA hP hS (fun j h1 h2 => absurd h2 (Nat.not_lt.mpr h1)) (fun H locs hP hS => ?_)
    refine lv_icmp_eq (tgt := 39) hx hb dX4_firstApart_34 (by decide) (fun c34 => ?_) (fun c34 => ?_)
    · have hf := iteT c34 hf
      obtain ⟨v7, ev7, hf⟩ := letb_w hf
      refine lv_iinc (v := v7) (lv' := [(3, .int v7), (0, .ref (κ 0)), (1, .int p1), (2, .int p2)]) hx hb dX4_firstApart_39 hl (k := 3) rfl (by rw [ev7]; rfl) (by decide) rfl (fun ls hl => ?_)
      refine lv_goto (tgt := 6) hx hb dX4_firstApart_42 (by decide) ?_
      exact ih6 _ hf _ _ _ hP hS (lv_sub hl [1, 2, 3, 0] rfl)
    · have hf := iteF c34 hf
      refine lv_iload_n hx hb dX4_firstApart_37 rfl (lv_at hl 3 rfl) ?_
      obtain ⟨h8, h9⟩ := Prod.mk.inj (Option.some.inj hf)
      subst h9
      exact g_iret S hr hlk hK hP hS h8 dX4_firstApart_38

set_option maxRecDepth 100000 in
set_option maxHeartbeats 4000000 in
theorem met_X4_apart (l : Launch) (D : va_G) (cI cII : ClassId) (κ : Nat → Nat) (hκ : Inj 5 κ) (σ : SX) (p1 : Int32) (p2 : Int32) (r : Int32) (σ' : SX) (hf : fn_X4_apart σ p1 p2 = some (r, σ')) : Met l yX4_apart wsX4_apart ({ frames := 6, cells := 0, slots := 0, locals := 136 } : Room) (va_Pc [.ref (κ 0), .int p1, .int p2] (mP D cI cII κ σ)) (QI D cI cII 5 κ (mC cI cII κ σ') r) 0 0 (gA 5 κ) := by
  refine g_enter (cc := cX4_apart) (maxL := 3) (ret := (some .int)) (by decide) rfl (Nat.le_of_ble_eq_true rfl) ?_
  intro p e s m args below meth c ls S hr hlk _ hB hl
  have S : CallFix p m c cX4_apart 3 s args wsX4_apart RX4 := S
  obtain ⟨hP, hK⟩ := hB
  have hl : lv_has ls 3 [(0, .ref (κ 0)), (1, .int p1), (2, .int p2)] := hl
  have hS : va_S (gA 5 κ) s.heap s.heap [] := va_S.rf
  have hA : ∀ k, k < 5 → gA 5 κ (κ k) := gA_in
  obtain ⟨hx, hb, hml, hown, hts⟩ := id S
  have hiX4 : ∀ w ∈ u_ws RX4 TX4 12, w ∈ wsX4_apart := by decide +kernel
  unfold fn_X4_apart at hf
  refine lv_aload_n hx hb dX4_apart_0 rfl (lv_at hl 0 rfl) ?_
  refine lv_iconst (v := 0) hx hb dX4_apart_1 (by decide) ?_
  obtain ⟨σ1, eσ1, hf⟩ := letb_w hf
  refine g_put (q := 0) (ci := 4) (k := 0) (ref := RX4) (C := RX4) (T := TX4) (N := 12) (index := 26) (ty := .int) (f' := (mC cI cII κ σ1)) S hK hP hκ hA hS hiX4 tyX4_ok nmX4 (by decide) rfl rfl (by decide) rfl (by decide +kernel) rfl (by decide +kernel) rfl rfl (Nat.le_of_ble_eq_true rfl) (fun j _ => by rw [eσ1]; exact mC_p0 j) dX4_apart_2 (fun H locs hP hS => ?_)
  refine lv_aload_n hx hb dX4_apart_5 rfl (lv_at hl 0 rfl) ?_
  refine lv_iload_n hx hb dX4_apart_6 rfl (lv_at hl 1 rfl) ?_
  obtain ⟨v2, hq7, hf⟩ := obw hf
  refine g_calli (va_runV (As := [.int p1]) (rest := []) S (met_X4_isState l D cI cII κ hκ σ1 p1 v2 hq7) (cwV 1 S.2.2.2.2 gX4_apart_X4_isState rfl rfl rfl (by decide +kernel) ⟨Nat.le_of_ble_eq_true rfl, Nat.le_of_ble_eq_true rfl⟩) (g_preV (N := 12) (T := TX4) hK hP (Nat.le_refl _) (by decide) rfl rfl) rfl rfl hl.1 rfl (lv_room (Nat.le_of_ble_eq_true rfl)) dX4_apart_7 ⟨Nat.le_of_ble_eq_true rfl, Nat.le_of_ble_eq_true rfl⟩) (Nat.le_refl _) hκ hA hP hS (fun j h1 h2 => absurd h2 (Nat.not_lt.mpr h1)) (fun H locs hP hS => ?_)
  obtain ⟨K30, hK30, hf⟩ := letb_w hf
  have J30 : ∀ (_u : Unit), K30 _u = some (r, σ') → ∀ (H : Heap) (locs : List Loc) (ls : Array Slot), va_P D vwCl (gw 5 κ (mC cI cII κ σ1)) H → va_S (gA 5 κ) s.heap H locs → lv_has ls 3 [(0, .ref (κ 0))] → W p l e ({ frames := 6, cells := 0, slots := 0, locals := 136 } : Room) s m args below meth c H locs 0 0 (MQ below (QI D cI cII 5 κ (mC cI cII κ σ') r) args s 0 0 (gA 5 κ)) (F0 m 30 ls []) := by
    intro _u hf H locs ls hP hS hl
    rw [hK30] at hf
    refine lv_aload_n hx hb dX4_apart_30 rfl (lv_at hl 0 rfl) ?_
    refine lv_iconst (v := 1) hx hb dX4_apart_31 (by decide) ?_
    obtain ⟨v4, σ3, hq32, hf⟩ := bind2_w hf
    refine g_calli (va_runV (As := [.int 1]) (rest := []) S (met_X4_fail l D cI cII κ hκ σ1 1 v4 σ3 hq32) (cwV 1 S.2.2.2.2 gX4_apart_X4_fail rfl rfl rfl (by decide +kernel) ⟨Nat.le_of_ble_eq_true rfl, Nat.le_of_ble_eq_true rfl⟩) (g_preV (N := 12) (T := TX4) hK hP (Nat.le_refl _) (by decide) rfl rfl) rfl rfl hl.1 rfl (lv_room (Nat.le_of_ble_eq_true rfl)) dX4_apart_32 ⟨Nat.le_of_ble_eq_true rfl, Nat.le_of_ble_eq_true rfl⟩) (Nat.le_refl _) hκ hA hP hS (fun j h1 h2 => absurd h2 (Nat.not_lt.mpr h1)) (fun H locs hP hS => ?_)
    obtain ⟨h8, h9⟩ := Prod.mk.inj (Option.some.inj hf)
    subst h9
    exact g_iret S hr hlk hK hP hS h8 dX4_apart_35
  refine lv_if_eq (tgt := 30) hx hb dX4_apart_10 (by decide) (fun c10 => ?_) (fun c10 => ?_)
  · have hf := iteT c10 hf
    exact J30 _ hf _ _ _ hP hS (lv_sub hl [0] rfl)
  · have hf := iteF c10 hf
    refine lv_aload_n hx hb dX4_apart_13 rfl (lv_at hl 0 rfl) ?_
    refine lv_iload_n hx hb dX4_apart_14 rfl (lv_at hl 2 rfl) ?_
    obtain ⟨v5, hq15, hf⟩ := obw hf
    refine g_calli (va_runV (As := [.int p2]) (rest := []) S (met_X4_isState l D cI cII κ hκ σ1 p2 v5 hq15) (cwV 1 S.2.2.2.2 gX4_apart_X4_isState rfl rfl rfl (by decide +kernel) ⟨Nat.le_of_ble_eq_true rfl, Nat.le_of_ble_eq_true rfl⟩) (g_preV (N := 12) (T := TX4) hK hP (Nat.le_refl _) (by decide) rfl rfl) rfl rfl hl.1 rfl (lv_room (Nat.le_of_ble_eq_true rfl)) dX4_apart_15 ⟨Nat.le_of_ble_eq_true rfl, Nat.le_of_ble_eq_true rfl⟩) (Nat.le_refl _) hκ hA hP hS (fun j h1 h2 => absurd h2 (Nat.not_lt.mpr h1)) (fun H locs hP hS => ?_)
    refine lv_if_eq (tgt := 30) hx hb dX4_apart_18 (by decide) (fun c18 => ?_) (fun c18 => ?_)
    · have hf := iteT c18 hf
      exact J30 _ hf _ _ _ hP hS (lv_sub hl [0] rfl)
    · have hf := iteF c18 hf
      refine lv_aload_n hx hb dX4_apart_21 rfl (lv_at hl 0 rfl) ?_
      refine lv_iload_n hx hb dX4_apart_22 rfl (lv_at hl 1 rfl) ?_
      refine lv_iload_n hx hb dX4_apart_23 rfl (lv_at hl 2 rfl) ?_
      obtain ⟨v7, σ6, hq24, hf⟩ := bind2_w hf
      refine g_calli (va_runV (As := [.int p1, .int p2]) (rest := []) S (met_X4_firstApart l D cI cII κ hκ σ1 p1 p2 v7 σ6 hq24) (cwV 2 S.2.2.2.2 gX4_apart_X4_firstApart rfl rfl rfl (by decide +kernel) ⟨Nat.le_of_ble_eq_true rfl, Nat.le_of_ble_eq_true rfl⟩) (g_preV (N := 12) (T := TX4) hK hP (Nat.le_refl _) (by decide) rfl rfl) rfl rfl hl.1 rfl (lv_room (Nat.le_of_ble_eq_true rfl)) dX4_apart_24 ⟨Nat.le_of_ble_eq_true rfl, Nat.le_of_ble_eq_true rfl⟩) (Nat.le_refl _) hκ hA hP hS (fun j h1 h2 => absurd h2 (Nat.not_lt.mpr h1)) (fun H locs hP hS => ?_)
      refine lv_goto (tgt := 35) hx hb dX4_apart_27 (by decide) ?_
      obtain ⟨h8, h9⟩ := Prod.mk.inj (Option.some.inj hf)
      subst h9
      exact g_iret S hr hlk hK hP hS h8 dX4_apart_35

set_option maxRecDepth 100000 in
set_option maxHeartbeats 4000000 in
theorem met_X4_firstPreventer (l : Launch) (D : va_G) (cI cII : ClassId) (κ : Nat → Nat) (hκ : Inj 5 κ) (σ : SX) (p1 : Int32) (p2 : Int32) (r : Int32) (σ' : SX) (hf : fn_X4_firstPreventer σ p1 p2 = some (r, σ')) : Met l yX4_firstPreventer wsX4_firstPreventer ({ frames := 5, cells := 0, slots := 0, locals := 113 } : Room) (va_Pc [.ref (κ 0), .int p1, .int p2] (mP D cI cII κ σ)) (QI D cI cII 5 κ (mC cI cII κ σ') r) 0 0 (gA 5 κ) := by
  refine g_enter (cc := cX4_firstPreventer) (maxL := 5) (ret := (some .int)) (by decide) rfl (Nat.le_of_ble_eq_true rfl) ?_
  intro p e s m args below meth c ls S hr hlk _ hB hl
  have S : CallFix p m c cX4_firstPreventer 5 s args wsX4_firstPreventer RX4 := S
  obtain ⟨hP, hK⟩ := hB
  have hl : lv_has ls 5 [(0, .ref (κ 0)), (1, .int p1), (2, .int p2)] := hl
  have hS : va_S (gA 5 κ) s.heap s.heap [] := va_S.rf
  have hA : ∀ k, k < 5 → gA 5 κ (κ k) := gA_in
  obtain ⟨hx, hb, hml, hown, hts⟩ := id S
  have hiX4 : ∀ w ∈ u_ws RX4 TX4 12, w ∈ wsX4_firstPreventer := by decide +kernel
  unfold fn_X4_firstPreventer at hf
  refine lv_aload_n hx hb dX4_firstPreventer_0 rfl (lv_at hl 0 rfl) ?_
  obtain ⟨σ1, hq1, hf⟩ := obw hf
  refine g_callv (va_runV (As := []) (rest := []) S (met_X4_know l D cI cII κ hκ σ σ1 hq1) (cwV 0 S.2.2.2.2 gX4_firstPreventer_X4_know rfl rfl rfl (by decide +kernel) ⟨Nat.le_of_ble_eq_true rfl, Nat.le_of_ble_eq_true rfl⟩) (g_preV (N := 12) (T := TX4) hK hP (Nat.le_refl _) (by decide) rfl rfl) rfl rfl hl.1 rfl (lv_room (Nat.le_of_ble_eq_true rfl)) dX4_firstPreventer_1 ⟨Nat.le_of_ble_eq_true rfl, Nat.le_of_ble_eq_true rfl⟩) (Nat.le_refl _) hκ hA hP hS (fun j h1 h2 => absurd h2 (Nat.not_lt.mpr h1)) (fun H locs hP hS => ?_)
  refine lv_iconst (v := 0) hx hb dX4_firstPreventer_4 (by decide) ?_
  obtain ⟨v2, ev2, hf⟩ := letb_w hf
  refine lv_nmi ev2 ?_
  refine lv_istore_n (lv' := [(3, .int v2), (0, .ref (κ 0)), (1, .int p1), (2, .int p2)]) hx hb dX4_firstPreventer_5 rfl hl (by decide) rfl (fun ls hl => ?_)
  refine loopF_w (P := fun (g : Int32 → Option (Int32 × SX)) => ∀ (x3_6 : Int32), g x3_6 = some (r, σ') → ∀ (H : Heap) (locs : List Loc) (ls : Array Slot), va_P D vwCl (gw 5 κ (mC cI cII κ σ1)) H → va_S (gA 5 κ) s.heap H locs → lv_has ls 5 [(0, .ref (κ 0)), (1, .int p1), (2, .int p2), (3, .int x3_6)] → W p l e ({ frames := 5, cells := 0, slots := 0, locals := 113 } : Room) s m args below meth c H locs 0 0 (MQ below (QI D cI cII 5 κ (mC cI cII κ σ') r) args s 0 0 (gA 5 κ)) (F0 m 6 ls [])) (fun _ h => by simp at h) ?_ FU _ hf _ _ _ hP hS (lv_sub hl [1, 2, 3, 0] rfl)
  intro rec6 ih6 x3_6 hf H locs ls hP hS hl
  unfold bd_X4_firstPreventer_6 at hf
  refine lv_iload_n hx hb dX4_firstPreventer_6 rfl (lv_at hl 3 rfl) ?_
  refine lv_aload_n hx hb dX4_firstPreventer_7 rfl (lv_at hl 0 rfl) ?_
  refine g_get (q := 0) (ci := 4) (k := 4) (ref := RX4) (C := RX4) (T := TX4) (N := 12) (index := 67) (v := .int ((σ1.1 3))) S hK hP hiX4 (by decide) rfl rfl (by decide) rfl (by decide +kernel) rfl dX4_firstPreventer_8 ?_
  refine lv_icmp_ge (tgt := 73) hx hb dX4_firstPreventer_11 (by decide) (fun c11 => ?_) (fun c11 => ?_)
  · have hf := iteT c11 hf
    refine lv_iconst (v := -1) hx hb dX4_firstPreventer_73 (by decide) ?_
    obtain ⟨h8, h9⟩ := Prod.mk.inj (Option.some.inj hf)
    subst h9
    exact g_iret S hr hlk hK hP hS h8 dX4_firstPreventer_74
  · have hf := iteF c11 hf
    refine lv_aload_n hx hb dX4_firstPreventer_14 rfl (lv_at hl 0 rfl) ?_
    refine lv_aload_n hx hb dX4_firstPreventer_15 rfl (lv_at hl 0 rfl) ?_
    refine g_get (q := 0) (ci := 4) (k := 5) (ref := RX4) (C := RX4) (T := TX4) (N := 12) (index := 17) (v := .ref (κ 2)) S hK hP hiX4 (by decide) rfl rfl (by decide) rfl (by decide +kernel) rfl dX4_firstPreventer_16 ?_
    refine lv_iload_n hx hb dX4_firstPreventer_19 rfl (lv_at hl 3 rfl) ?_
    obtain ⟨v3, hv3, hf⟩ := obw hf
    refine g_ald (a := 2) (len := 4096) S hK hP (by decide) (mC_arr (by decide) rfl) hv3 dX4_firstPreventer_20 ?_
    refine lv_iload_n hx hb dX4_firstPreventer_21 rfl (lv_at hl 2 rfl) ?_
    obtain ⟨v4, hq22, hf⟩ := obw hf
    refine g_calli (va_runV (As := [.int v3, .int p2]) (rest := []) S (met_X4_way l D cI cII κ hκ σ1 v3 p2 v4 hq22) (cwV 2 S.2.2.2.2 gX4_firstPreventer_X4_way rfl rfl rfl (by decide +kernel) ⟨Nat.le_of_ble_eq_true rfl, Nat.le_of_ble_eq_true rfl⟩) (g_preV (N := 12) (T := TX4) hK hP (Nat.le_refl _) (by decide) rfl rfl) rfl rfl hl.1 rfl (lv_room (Nat.le_of_ble_eq_true rfl)) dX4_firstPreventer_22 ⟨Nat.le_of_ble_eq_true rfl, Nat.le_of_ble_eq_true rfl⟩) (Nat.le_refl _) hκ hA hP hS (fun j h1 h2 => absurd h2 (Nat.not_lt.mpr h1)) (fun H locs hP hS => ?_)
    obtain ⟨v5, ev5, hf⟩ := letb_w hf
    refine lv_nmi ev5 ?_
    refine lv_istore (lv' := [(4, .int v5), (0, .ref (κ 0)), (1, .int p1), (2, .int p2), (3, .int x3_6)]) hx hb dX4_firstPreventer_25 hl (by decide) rfl (fun ls hl => ?_)
    refine lv_iload hx hb dX4_firstPreventer_27 (lv_at hl 0 rfl) ?_
    refine lv_iconst (v := 2) hx hb dX4_firstPreventer_29 (by decide) ?_
    obtain ⟨K65, hK65, hf⟩ := letb_w hf
    have J65 : ∀ (_u : Unit), K65 _u = some (r, σ') → ∀ (H : Heap) (locs : List Loc) (ls : Array Slot), va_P D vwCl (gw 5 κ (mC cI cII κ σ1)) H → va_S (gA 5 κ) s.heap H locs → lv_has ls 5 [(3, .int x3_6)] → W p l e ({ frames := 5, cells := 0, slots := 0, locals := 113 } : Room) s m args below meth c H locs 0 0 (MQ below (QI D cI cII 5 κ (mC cI cII κ σ') r) args s 0 0 (gA 5 κ)) (F0 m 65 ls []) := by
      intro _u hf H locs ls hP hS hl
      rw [hK65] at hf
      refine lv_iload_n hx hb dX4_firstPreventer_65 rfl (lv_at hl 0 rfl) ?_
      obtain ⟨h8, h9⟩ := Prod.mk.inj (Option.some.inj hf)
      subst h9
      exact g_iret S hr hlk hK hP hS h8 dX4_firstPreventer_66
    obtain ⟨K46, hK46, hf⟩ := letb_w hf
    have J46 : ∀ (_u : Unit), K46 _u = some (r, σ') → ∀ (H : Heap) (locs : List Loc) (ls : Array Slot), va_P D vwCl (gw 5 κ (mC cI cII κ σ1)) H → va_S (gA 5 κ) s.heap H locs → lv_has ls 5 [(0, .ref (κ 0)), (1, .int p1), (2, .int p2), (3, .int x3_6), (4, .int v5)] → W p l e ({ frames := 5, cells := 0, slots := 0, locals := 113 } : Room) s m args below meth c H locs 0 0 (MQ below (QI D cI cII 5 κ (mC cI cII κ σ') r) args s 0 0 (gA 5 κ)) (F0 m 46 ls []) := by
      intro _u hf H locs ls hP hS hl
      rw [hK46] at hf
      refine lv_iload hx hb dX4_firstPreventer_46 (lv_at hl 4 rfl) ?_
      refine lv_iconst (v := 1) hx hb dX4_firstPreventer_48 (by decide) ?_
      obtain ⟨K67, hK67, hf⟩ := letb_w hf
      have J67 : ∀ (_u : Unit), K67 _u = some (r, σ') → ∀ (H : Heap) (locs : List Loc) (ls : Array Slot), va_P D vwCl (gw 5 κ (mC cI cII κ σ1)) H → va_S (gA 5 κ) s.heap H locs → lv_has ls 5 [(0, .ref (κ 0)), (1, .int p1), (2, .int p2), (3, .int x3_6)] → W p l e ({ frames := 5, cells := 0, slots := 0, locals := 113 } : Room) s m args below meth c H locs 0 0 (MQ below (QI D cI cII 5 κ (mC cI cII κ σ') r) args s 0 0 (gA 5 κ)) (F0 m 67 ls []) := by
        intro _u hf H locs ls hP hS hl
        rw [hK67] at hf
        obtain ⟨v6, ev6, hf⟩ := letb_w hf
        refine lv_iinc (v := v6) (lv' := [(3, .int v6), (0, .ref (κ 0)), (1, .int p1), (2, .int p2)]) hx hb dX4_firstPreventer_67 hl (k := 3) rfl (by rw [ev6]; rfl) (by decide) rfl (fun ls hl => ?_)
        refine lv_goto (tgt := 6) hx hb dX4_firstPreventer_70 (by decide) ?_
        exact ih6 _ hf _ _ _ hP hS (lv_sub hl [1, 2, 3, 0] rfl)
      refine lv_icmp_ne (tgt := 67) hx hb dX4_firstPreventer_49 (by decide) (fun c49 => ?_) (fun c49 => ?_)
      · have hf := iteT c49 hf
        exact J67 _ hf _ _ _ hP hS (lv_sub hl [0, 1, 2, 3] rfl)
      · have hf := iteN c49 hf
        refine lv_aload_n hx hb dX4_firstPreventer_52 rfl (lv_at hl 0 rfl) ?_
        refine g_get (q := 0) (ci := 4) (k := 5) (ref := RX4) (C := RX4) (T := TX4) (N := 12) (index := 17) (v := .ref (κ 2)) S hK hP hiX4 (by decide) rfl rfl (by decide) rfl (by decide +kernel) rfl dX4_firstPreventer_53 ?_
        refine lv_iload_n hx hb dX4_firstPreventer_56 rfl (lv_at hl 3 rfl) ?_
        obtain ⟨v7, hv7, hf⟩ := obw hf
        refine g_ald (a := 2) (len := 4096) S hK hP (by decide) (mC_arr (by decide) rfl) hv7 dX4_firstPreventer_57 ?_
        refine lv_iload_n hx hb dX4_firstPreventer_58 rfl (lv_at hl 1 rfl) ?_
        obtain ⟨v8, hq59, hf⟩ := obw hf
        refine g_calli (va_runS (As := [.int v7, .int p1]) (rest := []) S (met_X4_has l D cI cII κ hκ σ1 v7 p1 v8 hq59) (va_cwS 2 S.2.2.2.2 gX4_firstPreventer_X4_has rfl rfl rfl (by decide +kernel) ⟨Nat.le_of_ble_eq_true rfl, Nat.le_of_ble_eq_true rfl⟩) (g_preS hK hP (Nat.le_refl _)) rfl rfl hl.1 rfl (lv_room (Nat.le_of_ble_eq_true rfl)) dX4_firstPreventer_59 ⟨Nat.le_of_ble_eq_true rfl, Nat.le_of_ble_eq_true rfl⟩) (Nat.le_refl _) hκ hA hP hS (fun j h1 h2 => absurd h2 (Nat.not_lt.mpr h1)) (fun H locs hP hS => ?_)
        refine lv_if_eq (tgt := 67) hx hb dX4_firstPreventer_62 (by decide) (fun c62 => ?_) (fun c62 => ?_)
        · have hf := iteT c62 hf
          exact J67 _ hf _ _ _ hP hS (lv_sub hl [0, 1, 2, 3] rfl)
        · have hf := iteF c62 hf
          exact J65 _ hf _ _ _ hP hS (lv_sub hl [3] rfl)
    refine lv_icmp_ne (tgt := 46) hx hb dX4_firstPreventer_30 (by decide) (fun c30 => ?_) (fun c30 => ?_)
    · have hf := iteT c30 hf
      exact J46 _ hf _ _ _ hP hS (lv_sub hl [1, 2, 3, 4, 0] rfl)
    · have hf := iteN c30 hf
      refine lv_aload_n hx hb dX4_firstPreventer_33 rfl (lv_at hl 1 rfl) ?_
      refine g_get (q := 0) (ci := 4) (k := 5) (ref := RX4) (C := RX4) (T := TX4) (N := 12) (index := 17) (v := .ref (κ 2)) S hK hP hiX4 (by decide) rfl rfl (by decide) rfl (by decide +kernel) rfl dX4_firstPreventer_34 ?_
      refine lv_iload_n hx hb dX4_firstPreventer_37 rfl (lv_at hl 4 rfl) ?_
      obtain ⟨v9, hv9, hf⟩ := obw hf
      refine g_ald (a := 2) (len := 4096) S hK hP (by decide) (mC_arr (by decide) rfl) hv9 dX4_firstPreventer_38 ?_
      refine lv_iload_n hx hb dX4_firstPreventer_39 rfl (lv_at hl 2 rfl) ?_
      obtain ⟨v10, hq40, hf⟩ := obw hf
      refine g_calli (va_runS (As := [.int v9, .int p1]) (rest := []) S (met_X4_has l D cI cII κ hκ σ1 v9 p1 v10 hq40) (va_cwS 2 S.2.2.2.2 gX4_firstPreventer_X4_has rfl rfl rfl (by decide +kernel) ⟨Nat.le_of_ble_eq_true rfl, Nat.le_of_ble_eq_true rfl⟩) (g_preS hK hP (Nat.le_refl _)) rfl rfl hl.1 rfl (lv_room (Nat.le_of_ble_eq_true rfl)) dX4_firstPreventer_40 ⟨Nat.le_of_ble_eq_true rfl, Nat.le_of_ble_eq_true rfl⟩) (Nat.le_refl _) hκ hA hP hS (fun j h1 h2 => absurd h2 (Nat.not_lt.mpr h1)) (fun H locs hP hS => ?_)
      refine lv_if_eq (tgt := 65) hx hb dX4_firstPreventer_43 (by decide) (fun c43 => ?_) (fun c43 => ?_)
      · have hf := iteT c43 hf
        exact J65 _ hf _ _ _ hP hS (lv_sub hl [4] rfl)
      · have hf := iteF c43 hf
        exact J46 _ hf _ _ _ hP hS (lv_sub hl [1, 2, 3, 4, 0] rfl)

set_option maxRecDepth 100000 in
set_option maxHeartbeats 4000000 in
theorem met_X4_preventer (l : Launch) (D : va_G) (cI cII : ClassId) (κ : Nat → Nat) (hκ : Inj 5 κ) (σ : SX) (p1 : Int32) (p2 : Int32) (r : Int32) (σ' : SX) (hf : fn_X4_preventer σ p1 p2 = some (r, σ')) : Met l yX4_preventer wsX4_preventer ({ frames := 6, cells := 0, slots := 0, locals := 137 } : Room) (va_Pc [.ref (κ 0), .int p1, .int p2] (mP D cI cII κ σ)) (QI D cI cII 5 κ (mC cI cII κ σ') r) 0 0 (gA 5 κ) := by
  refine g_enter (cc := cX4_preventer) (maxL := 3) (ret := (some .int)) (by decide) rfl (Nat.le_of_ble_eq_true rfl) ?_
  intro p e s m args below meth c ls S hr hlk _ hB hl
  have S : CallFix p m c cX4_preventer 3 s args wsX4_preventer RX4 := S
  obtain ⟨hP, hK⟩ := hB
  have hl : lv_has ls 3 [(0, .ref (κ 0)), (1, .int p1), (2, .int p2)] := hl
  have hS : va_S (gA 5 κ) s.heap s.heap [] := va_S.rf
  have hA : ∀ k, k < 5 → gA 5 κ (κ k) := gA_in
  obtain ⟨hx, hb, hml, hown, hts⟩ := id S
  have hiX4 : ∀ w ∈ u_ws RX4 TX4 12, w ∈ wsX4_preventer := by decide +kernel
  unfold fn_X4_preventer at hf
  refine lv_aload_n hx hb dX4_preventer_0 rfl (lv_at hl 0 rfl) ?_
  refine lv_iconst (v := 0) hx hb dX4_preventer_1 (by decide) ?_
  obtain ⟨σ1, eσ1, hf⟩ := letb_w hf
  refine g_put (q := 0) (ci := 4) (k := 0) (ref := RX4) (C := RX4) (T := TX4) (N := 12) (index := 26) (ty := .int) (f' := (mC cI cII κ σ1)) S hK hP hκ hA hS hiX4 tyX4_ok nmX4 (by decide) rfl rfl (by decide) rfl (by decide +kernel) rfl (by decide +kernel) rfl rfl (Nat.le_of_ble_eq_true rfl) (fun j _ => by rw [eσ1]; exact mC_p0 j) dX4_preventer_2 (fun H locs hP hS => ?_)
  refine lv_aload_n hx hb dX4_preventer_5 rfl (lv_at hl 0 rfl) ?_
  refine lv_iload_n hx hb dX4_preventer_6 rfl (lv_at hl 1 rfl) ?_
  obtain ⟨v2, hq7, hf⟩ := obw hf
  refine g_calli (va_runV (As := [.int p1]) (rest := []) S (met_X4_isState l D cI cII κ hκ σ1 p1 v2 hq7) (cwV 1 S.2.2.2.2 gX4_preventer_X4_isState rfl rfl rfl (by decide +kernel) ⟨Nat.le_of_ble_eq_true rfl, Nat.le_of_ble_eq_true rfl⟩) (g_preV (N := 12) (T := TX4) hK hP (Nat.le_refl _) (by decide) rfl rfl) rfl rfl hl.1 rfl (lv_room (Nat.le_of_ble_eq_true rfl)) dX4_preventer_7 ⟨Nat.le_of_ble_eq_true rfl, Nat.le_of_ble_eq_true rfl⟩) (Nat.le_refl _) hκ hA hP hS (fun j h1 h2 => absurd h2 (Nat.not_lt.mpr h1)) (fun H locs hP hS => ?_)
  obtain ⟨K20, hK20, hf⟩ := letb_w hf
  have J20 : ∀ (_u : Unit), K20 _u = some (r, σ') → ∀ (H : Heap) (locs : List Loc) (ls : Array Slot), va_P D vwCl (gw 5 κ (mC cI cII κ σ1)) H → va_S (gA 5 κ) s.heap H locs → lv_has ls 3 [(0, .ref (κ 0))] → W p l e ({ frames := 6, cells := 0, slots := 0, locals := 137 } : Room) s m args below meth c H locs 0 0 (MQ below (QI D cI cII 5 κ (mC cI cII κ σ') r) args s 0 0 (gA 5 κ)) (F0 m 20 ls []) := by
    intro _u hf H locs ls hP hS hl
    rw [hK20] at hf
    refine lv_aload_n hx hb dX4_preventer_20 rfl (lv_at hl 0 rfl) ?_
    refine lv_iconst (v := 1) hx hb dX4_preventer_21 (by decide) ?_
    obtain ⟨v4, σ3, hq22, hf⟩ := bind2_w hf
    refine g_calli (va_runV (As := [.int 1]) (rest := []) S (met_X4_fail l D cI cII κ hκ σ1 1 v4 σ3 hq22) (cwV 1 S.2.2.2.2 gX4_preventer_X4_fail rfl rfl rfl (by decide +kernel) ⟨Nat.le_of_ble_eq_true rfl, Nat.le_of_ble_eq_true rfl⟩) (g_preV (N := 12) (T := TX4) hK hP (Nat.le_refl _) (by decide) rfl rfl) rfl rfl hl.1 rfl (lv_room (Nat.le_of_ble_eq_true rfl)) dX4_preventer_22 ⟨Nat.le_of_ble_eq_true rfl, Nat.le_of_ble_eq_true rfl⟩) (Nat.le_refl _) hκ hA hP hS (fun j h1 h2 => absurd h2 (Nat.not_lt.mpr h1)) (fun H locs hP hS => ?_)
    obtain ⟨h8, h9⟩ := Prod.mk.inj (Option.some.inj hf)
    subst h9
    exact g_iret S hr hlk hK hP hS h8 dX4_preventer_25
  refine lv_if_eq (tgt := 20) hx hb dX4_preventer_10 (by decide) (fun c10 => ?_) (fun c10 => ?_)
  · have hf := iteT c10 hf
    exact J20 _ hf _ _ _ hP hS (lv_sub hl [0] rfl)
  · have hf := iteF c10 hf
    refine lv_iload_n hx hb dX4_preventer_13 rfl (lv_at hl 2 rfl) ?_
    obtain ⟨v5, hq14, hf⟩ := obw hf
    refine g_calli (va_runS (As := [.int p2]) (rest := []) S (met_X4_isLabel l D cI cII κ hκ σ1 p2 v5 hq14) (va_cwS 1 S.2.2.2.2 gX4_preventer_X4_isLabel rfl rfl rfl (by decide +kernel) ⟨Nat.le_of_ble_eq_true rfl, Nat.le_of_ble_eq_true rfl⟩) (g_preS hK hP (Nat.le_refl _)) rfl rfl hl.1 rfl (lv_room (Nat.le_of_ble_eq_true rfl)) dX4_preventer_14 ⟨Nat.le_of_ble_eq_true rfl, Nat.le_of_ble_eq_true rfl⟩) (Nat.le_refl _) hκ hA hP hS (fun j h1 h2 => absurd h2 (Nat.not_lt.mpr h1)) (fun H locs hP hS => ?_)
    refine lv_if_ne (tgt := 26) hx hb dX4_preventer_17 (by decide) (fun c17 => ?_) (fun c17 => ?_)
    · have hf := iteT c17 hf
      refine lv_aload_n hx hb dX4_preventer_26 rfl (lv_at hl 0 rfl) ?_
      refine lv_iload_n hx hb dX4_preventer_27 rfl (lv_at hl 1 rfl) ?_
      refine lv_iload_n hx hb dX4_preventer_28 rfl (lv_at hl 2 rfl) ?_
      obtain ⟨v6, hq29, hf⟩ := obw hf
      refine g_calli (va_runV (As := [.int p1, .int p2]) (rest := []) S (met_X4_to l D cI cII κ hκ σ1 p1 p2 v6 hq29) (cwV 2 S.2.2.2.2 gX4_preventer_X4_to rfl rfl rfl (by decide +kernel) ⟨Nat.le_of_ble_eq_true rfl, Nat.le_of_ble_eq_true rfl⟩) (g_preV (N := 12) (T := TX4) hK hP (Nat.le_refl _) (by decide) rfl rfl) rfl rfl hl.1 rfl (lv_room (Nat.le_of_ble_eq_true rfl)) dX4_preventer_29 ⟨Nat.le_of_ble_eq_true rfl, Nat.le_of_ble_eq_true rfl⟩) (Nat.le_refl _) hκ hA hP hS (fun j h1 h2 => absurd h2 (Nat.not_lt.mpr h1)) (fun H locs hP hS => ?_)
      refine lv_iconst (v := -1) hx hb dX4_preventer_32 (by decide) ?_
      refine lv_icmp_eq (tgt := 41) hx hb dX4_preventer_33 (by decide) (fun c33 => ?_) (fun c33 => ?_)
      · have hf := iteT c33 hf
        refine lv_aload_n hx hb dX4_preventer_41 rfl (lv_at hl 0 rfl) ?_
        refine lv_iload_n hx hb dX4_preventer_42 rfl (lv_at hl 1 rfl) ?_
        refine lv_iload_n hx hb dX4_preventer_43 rfl (lv_at hl 2 rfl) ?_
        obtain ⟨v8, σ7, hq44, hf⟩ := bind2_w hf
        refine g_calli (va_runV (As := [.int p1, .int p2]) (rest := []) S (met_X4_firstPreventer l D cI cII κ hκ σ1 p1 p2 v8 σ7 hq44) (cwV 2 S.2.2.2.2 gX4_preventer_X4_firstPreventer rfl rfl rfl (by decide +kernel) ⟨Nat.le_of_ble_eq_true rfl, Nat.le_of_ble_eq_true rfl⟩) (g_preV (N := 12) (T := TX4) hK hP (Nat.le_refl _) (by decide) rfl rfl) rfl rfl hl.1 rfl (lv_room (Nat.le_of_ble_eq_true rfl)) dX4_preventer_44 ⟨Nat.le_of_ble_eq_true rfl, Nat.le_of_ble_eq_true rfl⟩) (Nat.le_refl _) hκ hA hP hS (fun j h1 h2 => absurd h2 (Nat.not_lt.mpr h1)) (fun H locs hP hS => ?_)
        obtain ⟨h8, h9⟩ := Prod.mk.inj (Option.some.inj hf)
        subst h9
        exact g_iret S hr hlk hK hP hS h8 dX4_preventer_47
      · have hf := iteF c33 hf
        refine lv_bipush (v := -2) hx hb dX4_preventer_36 (by decide) ?_
        refine lv_goto (tgt := 47) hx hb dX4_preventer_38 (by decide) ?_
        obtain ⟨h8, h9⟩ := Prod.mk.inj (Option.some.inj hf)
        subst h9
        exact g_iret S hr hlk hK hP hS h8 dX4_preventer_47
    · have hf := iteN c17 hf
      exact J20 _ hf _ _ _ hP hS (lv_sub hl [0] rfl)

set_option maxRecDepth 100000 in
set_option maxHeartbeats 4000000 in
theorem met_X4_lumpCount (l : Launch) (D : va_G) (cI cII : ClassId) (κ : Nat → Nat) (hκ : Inj 5 κ) (σ : SX)  (r : Int32) (σ' : SX) (hf : fn_X4_lumpCount σ  = some (r, σ')) : Met l yX4_lumpCount wsX4_lumpCount ({ frames := 6, cells := 0, slots := 0, locals := 136 } : Room) (va_Pc [.ref (κ 0)] (mP D cI cII κ σ)) (QI D cI cII 5 κ (mC cI cII κ σ') r) 0 0 (gA 5 κ) := by
  refine g_enter (cc := cX4_lumpCount) (maxL := 4) (ret := (some .int)) (by decide) rfl (Nat.le_of_ble_eq_true rfl) ?_
  intro p e s m args below meth c ls S hr hlk _ hB hl
  have S : CallFix p m c cX4_lumpCount 4 s args wsX4_lumpCount RX4 := S
  obtain ⟨hP, hK⟩ := hB
  have hl : lv_has ls 4 [(0, .ref (κ 0))] := hl
  have hS : va_S (gA 5 κ) s.heap s.heap [] := va_S.rf
  have hA : ∀ k, k < 5 → gA 5 κ (κ k) := gA_in
  obtain ⟨hx, hb, hml, hown, hts⟩ := id S
  have hiX4 : ∀ w ∈ u_ws RX4 TX4 12, w ∈ wsX4_lumpCount := by decide +kernel
  unfold fn_X4_lumpCount at hf
  refine lv_iconst (v := 0) hx hb dX4_lumpCount_0 (by decide) ?_
  obtain ⟨v1, ev1, hf⟩ := letb_w hf
  refine lv_nmi ev1 ?_
  refine lv_istore_n (lv' := [(1, .int v1), (0, .ref (κ 0))]) hx hb dX4_lumpCount_1 rfl hl (by decide) rfl (fun ls hl => ?_)
  refine lv_iconst (v := 0) hx hb dX4_lumpCount_2 (by decide) ?_
  obtain ⟨v2, ev2, hf⟩ := letb_w hf
  refine lv_nmi ev2 ?_
  refine lv_istore_n (lv' := [(2, .int v2), (1, .int v1), (0, .ref (κ 0))]) hx hb dX4_lumpCount_3 rfl hl (by decide) rfl (fun ls hl => ?_)
  refine loopF_w (P := fun (g : Int32 → Int32 → SX → Option (Int32 × SX)) => ∀ (x1_4 : Int32) (x2_4 : Int32) (σ_4 : SX), g x1_4 x2_4 σ_4 = some (r, σ') → ∀ (H : Heap) (locs : List Loc) (ls : Array Slot), va_P D vwCl (gw 5 κ (mC cI cII κ σ_4)) H → va_S (gA 5 κ) s.heap H locs → lv_has ls 4 [(0, .ref (κ 0)), (1, .int x1_4), (2, .int x2_4)] → W p l e ({ frames := 6, cells := 0, slots := 0, locals := 136 } : Room) s m args below meth c H locs 0 0 (MQ below (QI D cI cII 5 κ (mC cI cII κ σ') r) args s 0 0 (gA 5 κ)) (F0 m 4 ls [])) (fun _ _ _ h => by simp at h) ?_ FU _ _ _ hf _ _ _ hP hS (lv_sub hl [2, 1, 0] rfl)
  intro rec4 ih4 x1_4 x2_4 σ_4 hf H locs ls hP hS hl
  unfold bd_X4_lumpCount_4 at hf
  refine lv_iload_n hx hb dX4_lumpCount_4 rfl (lv_at hl 2 rfl) ?_
  refine lv_aload_n hx hb dX4_lumpCount_5 rfl (lv_at hl 0 rfl) ?_
  refine g_get (q := 0) (ci := 4) (k := 1) (ref := RX4) (C := RX4) (T := TX4) (N := 12) (index := 9) (v := .int ((σ_4.1 1))) S hK hP hiX4 (by decide) rfl rfl (by decide) rfl (by decide +kernel) rfl dX4_lumpCount_6 ?_
  refine lv_icmp_ge (tgt := 49) hx hb dX4_lumpCount_9 (by decide) (fun c9 => ?_) (fun c9 => ?_)
  · have hf := iteT c9 hf
    refine lv_iload_n hx hb dX4_lumpCount_49 rfl (lv_at hl 1 rfl) ?_
    obtain ⟨h8, h9⟩ := Prod.mk.inj (Option.some.inj hf)
    subst h9
    exact g_iret S hr hlk hK hP hS h8 dX4_lumpCount_50
  · have hf := iteF c9 hf
    refine lv_iconst (v := 0) hx hb dX4_lumpCount_12 (by decide) ?_
    obtain ⟨v3, ev3, hf⟩ := letb_w hf
    refine lv_nmi ev3 ?_
    refine lv_istore_n (lv' := [(3, .int v3), (0, .ref (κ 0)), (1, .int x1_4), (2, .int x2_4)]) hx hb dX4_lumpCount_13 rfl hl (by decide) rfl (fun ls hl => ?_)
    refine loopF_w (P := fun (g : Int32 → Int32 → SX → Option (Int32 × SX)) => ∀ (x1_14 : Int32) (x3_14 : Int32) (σ_14 : SX), g x1_14 x3_14 σ_14 = some (r, σ') → ∀ (H : Heap) (locs : List Loc) (ls : Array Slot), va_P D vwCl (gw 5 κ (mC cI cII κ σ_14)) H → va_S (gA 5 κ) s.heap H locs → lv_has ls 4 [(0, .ref (κ 0)), (1, .int x1_14), (2, .int x2_4), (3, .int x3_14)] → W p l e ({ frames := 6, cells := 0, slots := 0, locals := 136 } : Room) s m args below meth c H locs 0 0 (MQ below (QI D cI cII 5 κ (mC cI cII κ σ') r) args s 0 0 (gA 5 κ)) (F0 m 14 ls [])) (fun _ _ _ h => by simp at h) ?_ FU _ _ _ hf _ _ _ hP hS (lv_sub hl [1, 2, 3, 0] rfl)
    intro rec14 ih14 x1_14 x3_14 σ_14 hf H locs ls hP hS hl
    unfold bd_X4_lumpCount_14 at hf
    refine lv_iload_n hx hb dX4_lumpCount_14 rfl (lv_at hl 3 rfl) ?_
    refine lv_iload_n hx hb dX4_lumpCount_15 rfl (lv_at hl 2 rfl) ?_
    refine lv_icmp_ge (tgt := 43) hx hb dX4_lumpCount_16 (by decide) (fun c16 => ?_) (fun c16 => ?_)
    · have hf := iteT c16 hf
      obtain ⟨v4, ev4, hf⟩ := letb_w hf
      refine lv_iinc (v := v4) (lv' := [(2, .int v4), (0, .ref (κ 0)), (1, .int x1_14), (3, .int x3_14)]) hx hb dX4_lumpCount_43 hl (k := 2) rfl (by rw [ev4]; rfl) (by decide) rfl (fun ls hl => ?_)
      refine lv_goto (tgt := 4) hx hb dX4_lumpCount_46 (by decide) ?_
      exact ih4 _ _ _ hf _ _ _ hP hS (lv_sub hl [1, 2, 0] rfl)
    · have hf := iteF c16 hf
      refine lv_iload_n hx hb dX4_lumpCount_19 rfl (lv_at hl 1 rfl) ?_
      refine lv_aload_n hx hb dX4_lumpCount_20 rfl (lv_at hl 0 rfl) ?_
      refine lv_iload_n hx hb dX4_lumpCount_21 rfl (lv_at hl 2 rfl) ?_
      refine lv_iload_n hx hb dX4_lumpCount_22 rfl (lv_at hl 3 rfl) ?_
      obtain ⟨v6, σ5, hq23, hf⟩ := bind2_w hf
      refine g_calli (va_runV (As := [.int x2_4, .int x3_14]) (rest := [.int x1_14]) S (met_X4_firstApart l D cI cII κ hκ σ_14 x2_4 x3_14 v6 σ5 hq23) (cwV 2 S.2.2.2.2 gX4_lumpCount_X4_firstApart rfl rfl rfl (by decide +kernel) ⟨Nat.le_of_ble_eq_true rfl, Nat.le_of_ble_eq_true rfl⟩) (g_preV (N := 12) (T := TX4) hK hP (Nat.le_refl _) (by decide) rfl rfl) rfl rfl hl.1 rfl (lv_room (Nat.le_of_ble_eq_true rfl)) dX4_lumpCount_23 ⟨Nat.le_of_ble_eq_true rfl, Nat.le_of_ble_eq_true rfl⟩) (Nat.le_refl _) hκ hA hP hS (fun j h1 h2 => absurd h2 (Nat.not_lt.mpr h1)) (fun H locs hP hS => ?_)
      refine lv_iconst (v := -1) hx hb dX4_lumpCount_26 (by decide) ?_
      obtain ⟨K35, hK35, hf⟩ := letb_w hf
      have J35 : ∀ (z1_35 : Int32), K35 z1_35 = some (r, σ') → ∀ (H : Heap) (locs : List Loc) (ls : Array Slot), va_P D vwCl (gw 5 κ (mC cI cII κ σ5)) H → va_S (gA 5 κ) s.heap H locs → lv_has ls 4 [(0, .ref (κ 0)), (2, .int x2_4), (3, .int x3_14)] → W p l e ({ frames := 6, cells := 0, slots := 0, locals := 136 } : Room) s m args below meth c H locs 0 0 (MQ below (QI D cI cII 5 κ (mC cI cII κ σ') r) args s 0 0 (gA 5 κ)) (F0 m 35 ls [.int z1_35, .int x1_14]) := by
        intro z1_35 hf H locs ls hP hS hl
        rw [hK35] at hf
        refine lv_iadd hx hb dX4_lumpCount_35 ?_
        obtain ⟨v7, ev7, hf⟩ := letb_w hf
        refine lv_nmi ev7 ?_
        refine lv_istore_n (lv' := [(1, .int v7), (0, .ref (κ 0)), (2, .int x2_4), (3, .int x3_14)]) hx hb dX4_lumpCount_36 rfl hl (by decide) rfl (fun ls hl => ?_)
        obtain ⟨v8, ev8, hf⟩ := letb_w hf
        refine lv_iinc (v := v8) (lv' := [(3, .int v8), (1, .int v7), (0, .ref (κ 0)), (2, .int x2_4)]) hx hb dX4_lumpCount_37 hl (k := 3) rfl (by rw [ev8]; rfl) (by decide) rfl (fun ls hl => ?_)
        refine lv_goto (tgt := 14) hx hb dX4_lumpCount_40 (by decide) ?_
        exact ih14 _ _ _ hf _ _ _ hP hS (lv_sub hl [2, 1, 3, 0] rfl)
      refine lv_icmp_ne (tgt := 34) hx hb dX4_lumpCount_27 (by decide) (fun c27 => ?_) (fun c27 => ?_)
      · have hf := iteT c27 hf
        refine lv_iconst (v := 0) hx hb dX4_lumpCount_34 (by decide) ?_
        exact J35 _ hf _ _ _ hP hS (lv_sub hl [0, 2, 3] rfl)
      · have hf := iteN c27 hf
        refine lv_iconst (v := 1) hx hb dX4_lumpCount_30 (by decide) ?_
        refine lv_goto (tgt := 35) hx hb dX4_lumpCount_31 (by decide) ?_
        exact J35 _ hf _ _ _ hP hS (lv_sub hl [0, 2, 3] rfl)

set_option maxRecDepth 100000 in
set_option maxHeartbeats 4000000 in
theorem met_X4_lumps (l : Launch) (D : va_G) (cI cII : ClassId) (κ : Nat → Nat) (hκ : Inj 5 κ) (σ : SX)  (r : Int32) (σ' : SX) (hf : fn_X4_lumps σ  = some (r, σ')) : Met l yX4_lumps wsX4_lumps ({ frames := 7, cells := 0, slots := 0, locals := 159 } : Room) (va_Pc [.ref (κ 0)] (mP D cI cII κ σ)) (QI D cI cII 5 κ (mC cI cII κ σ') r) 0 0 (gA 5 κ) := by
  refine g_enter (cc := cX4_lumps) (maxL := 1) (ret := (some .int)) (by decide) rfl (Nat.le_of_ble_eq_true rfl) ?_
  intro p e s m args below meth c ls S hr hlk _ hB hl
  have S : CallFix p m c cX4_lumps 1 s args wsX4_lumps RX4 := S
  obtain ⟨hP, hK⟩ := hB
  have hl : lv_has ls 1 [(0, .ref (κ 0))] := hl
  have hS : va_S (gA 5 κ) s.heap s.heap [] := va_S.rf
  have hA : ∀ k, k < 5 → gA 5 κ (κ k) := gA_in
  obtain ⟨hx, hb, hml, hown, hts⟩ := id S
  have hiX4 : ∀ w ∈ u_ws RX4 TX4 12, w ∈ wsX4_lumps := by decide +kernel
  unfold fn_X4_lumps at hf
  refine lv_aload_n hx hb dX4_lumps_0 rfl (lv_at hl 0 rfl) ?_
  refine lv_iconst (v := 0) hx hb dX4_lumps_1 (by decide) ?_
  obtain ⟨σ1, eσ1, hf⟩ := letb_w hf
  refine g_put (q := 0) (ci := 4) (k := 0) (ref := RX4) (C := RX4) (T := TX4) (N := 12) (index := 26) (ty := .int) (f' := (mC cI cII κ σ1)) S hK hP hκ hA hS hiX4 tyX4_ok nmX4 (by decide) rfl rfl (by decide) rfl (by decide +kernel) rfl (by decide +kernel) rfl rfl (Nat.le_of_ble_eq_true rfl) (fun j _ => by rw [eσ1]; exact mC_p0 j) dX4_lumps_2 (fun H locs hP hS => ?_)
  refine lv_aload_n hx hb dX4_lumps_5 rfl (lv_at hl 0 rfl) ?_
  obtain ⟨v3, σ2, hq6, hf⟩ := bind2_w hf
  refine g_calli (va_runV (As := []) (rest := []) S (met_X4_lumpCount l D cI cII κ hκ σ1 v3 σ2 hq6) (cwV 0 S.2.2.2.2 gX4_lumps_X4_lumpCount rfl rfl rfl (by decide +kernel) ⟨Nat.le_of_ble_eq_true rfl, Nat.le_of_ble_eq_true rfl⟩) (g_preV (N := 12) (T := TX4) hK hP (Nat.le_refl _) (by decide) rfl rfl) rfl rfl hl.1 rfl (lv_room (Nat.le_of_ble_eq_true rfl)) dX4_lumps_6 ⟨Nat.le_of_ble_eq_true rfl, Nat.le_of_ble_eq_true rfl⟩) (Nat.le_refl _) hκ hA hP hS (fun j h1 h2 => absurd h2 (Nat.not_lt.mpr h1)) (fun H locs hP hS => ?_)
  obtain ⟨h8, h9⟩ := Prod.mk.inj (Option.some.inj hf)
  subst h9
  exact g_iret S hr hlk hK hP hS h8 dX4_lumps_9
