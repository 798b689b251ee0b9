/-! by wip/whole/gen.py: walks: the machine computes the pure functions -/
set_option maxRecDepth 100000 in
set_option maxHeartbeats 4000000 in
theorem met_X4_isAsked (l : Launch) (D : va_G) (cI cII : ClassId) (κ : Nat → Nat) (hκ : Inj 5 κ) (σ : SX) (p1 : Int32) (p2 : Int32) (r : Int32) (hf : fn_X4_isAsked σ p1 p2 = some r) : Met l yX4_isAsked wsX4_isAsked ({ frames := 2, cells := 0, slots := 0, locals := 46 } : Room) (va_Pc [.ref (κ 0), .int p1, .int p2] (mP D cI cII κ σ)) (QI D cI cII 5 κ (mC cI cII κ σ) r) 0 0 (gA 5 κ) := by
  refine g_enter (cc := cX4_isAsked) (maxL := 3) (ret := (some .boolean)) (by decide) rfl (Nat.le_of_ble_eq_true rfl) ?_
  intro p e s m args below meth c ls S hr hlk _ hB hl
  have S : CallFix p m c cX4_isAsked 3 s args wsX4_isAsked RX4 := S
  obtain ⟨hP, hK⟩ := hB
  have hl : lv_has ls 3 [(0, .ref (κ 0)), (1, .int p1), (2, .int p2)] := hl
  have hS : va_S (gA 5 κ) s.heap s.heap [] := va_S.rf
  have hA : ∀ k, k < 5 → gA 5 κ (κ k) := gA_in
  obtain ⟨hx, hb, hml, hown, hts⟩ := id S
  unfold fn_X4_isAsked at hf
  refine lv_aload_n hx hb dX4_isAsked_0 rfl (lv_at hl 0 rfl) ?_
  refine lv_iload_n hx hb dX4_isAsked_1 rfl (lv_at hl 1 rfl) ?_
  refine lv_iload_n hx hb dX4_isAsked_2 rfl (lv_at hl 2 rfl) ?_
  obtain ⟨v1, hq3, hf⟩ := obw hf
  refine g_calli (va_runV (As := [.int p1, .int p2]) (rest := []) S (met_X4_to l D cI cII κ hκ σ p1 p2 v1 hq3) (cwV 2 S.2.2.2.2 gX4_isAsked_X4_to rfl rfl rfl (by decide +kernel) ⟨Nat.le_of_ble_eq_true rfl, Nat.le_of_ble_eq_true rfl⟩) (g_preV (N := 12) (T := TX4) hK hP (Nat.le_refl _) (by decide) rfl rfl) rfl rfl hl.1 rfl (lv_room (Nat.le_of_ble_eq_true rfl)) dX4_isAsked_3 ⟨Nat.le_of_ble_eq_true rfl, Nat.le_of_ble_eq_true rfl⟩) (Nat.le_refl _) hκ hA hP hS (fun j h1 h2 => absurd h2 (Nat.not_lt.mpr h1)) (fun H locs hP hS => ?_)
  refine lv_iconst (v := -1) hx hb dX4_isAsked_6 (by decide) ?_
  obtain ⟨K23, hK23, hf⟩ := letb_w hf
  have J23 : ∀ (_u : Unit), K23 _u = some r → ∀ (H : Heap) (locs : List Loc) (ls : Array Slot), va_P D vwCl (gw 5 κ (mC cI cII κ σ)) H → va_S (gA 5 κ) s.heap H locs → lv_has ls 3 [] → W p l e ({ frames := 2, cells := 0, slots := 0, locals := 46 } : Room) s m args below meth c H locs 0 0 (MQ below (QI D cI cII 5 κ (mC cI cII κ σ) r) args s 0 0 (gA 5 κ)) (F0 m 23 ls []) := by
    intro _u hf H locs ls hP hS hl
    rw [hK23] at hf
    refine lv_iconst (v := 0) hx hb dX4_isAsked_23 (by decide) ?_
    exact g_zret S hr hlk hK hP hS hf dX4_isAsked_24
  refine lv_icmp_ne (tgt := 23) hx hb dX4_isAsked_7 (by decide) (fun c7 => ?_) (fun c7 => ?_)
  · have hf := iteT c7 hf
    exact J23 _ hf _ _ _ hP hS (lv_sub hl [] rfl)
  · have hf := iteN c7 hf
    refine lv_aload_n hx hb dX4_isAsked_10 rfl (lv_at hl 0 rfl) ?_
    refine lv_iload_n hx hb dX4_isAsked_11 rfl (lv_at hl 2 rfl) ?_
    refine lv_iconst (v := 1) hx hb dX4_isAsked_12 (by decide) ?_
    obtain ⟨v2, hq13, hf⟩ := obw hf
    refine g_calli (va_runV (As := [.int p2, .int 1]) (rest := []) S (met_X4_ends l D cI cII κ hκ σ p2 1 v2 hq13) (cwV 2 S.2.2.2.2 gX4_isAsked_X4_ends rfl rfl rfl (by decide +kernel) ⟨Nat.le_of_ble_eq_true rfl, Nat.le_of_ble_eq_true rfl⟩) (g_preV (N := 12) (T := TX4) hK hP (Nat.le_refl _) (by decide) rfl rfl) rfl rfl hl.1 rfl (lv_room (Nat.le_of_ble_eq_true rfl)) dX4_isAsked_13 ⟨Nat.le_of_ble_eq_true rfl, Nat.le_of_ble_eq_true rfl⟩) (Nat.le_refl _) hκ hA hP hS (fun j h1 h2 => absurd h2 (Nat.not_lt.mpr h1)) (fun H locs hP hS => ?_)
    refine lv_if_eq (tgt := 23) hx hb dX4_isAsked_16 (by decide) (fun c16 => ?_) (fun c16 => ?_)
    · have hf := iteT c16 hf
      exact J23 _ hf _ _ _ hP hS (lv_sub hl [] rfl)
    · have hf := iteF c16 hf
      refine lv_iconst (v := 1) hx hb dX4_isAsked_19 (by decide) ?_
      refine lv_goto (tgt := 24) hx hb dX4_isAsked_20 (by decide) ?_
      exact g_zret S hr hlk hK hP hS hf dX4_isAsked_24

set_option maxRecDepth 100000 in
set_option maxHeartbeats 4000000 in
theorem met_X4_leakCount (l : Launch) (D : va_G) (cI cII : ClassId) (κ : Nat → Nat) (hκ : Inj 5 κ) (σ : SX)  (r : Int32) (σ' : SX) (hf : fn_X4_leakCount σ  = some (r, σ')) : Met l yX4_leakCount wsX4_leakCount ({ frames := 6, cells := 0, slots := 0, locals := 137 } : Room) (va_Pc [.ref (κ 0)] (mP D cI cII κ σ)) (QI D cI cII 5 κ (mC cI cII κ σ') r) 0 0 (gA 5 κ) := by
  refine g_enter (cc := cX4_leakCount) (maxL := 4) (ret := (some .int)) (by decide) rfl (Nat.le_of_ble_eq_true rfl) ?_
  intro p e s m args below meth c ls S hr hlk _ hB hl
  have S : CallFix p m c cX4_leakCount 4 s args wsX4_leakCount RX4 := S
  obtain ⟨hP, hK⟩ := hB
  have hl : lv_has ls 4 [(0, .ref (κ 0))] := hl
  have hS : va_S (gA 5 κ) s.heap s.heap [] := va_S.rf
  have hA : ∀ k, k < 5 → gA 5 κ (κ k) := gA_in
  obtain ⟨hx, hb, hml, hown, hts⟩ := id S
  have hiX4 : ∀ w ∈ u_ws RX4 TX4 12, w ∈ wsX4_leakCount := by decide +kernel
  unfold fn_X4_leakCount at hf
  refine lv_iconst (v := 0) hx hb dX4_leakCount_0 (by decide) ?_
  obtain ⟨v1, ev1, hf⟩ := letb_w hf
  refine lv_nmi ev1 ?_
  refine lv_istore_n (lv' := [(1, .int v1), (0, .ref (κ 0))]) hx hb dX4_leakCount_1 rfl hl (by decide) rfl (fun ls hl => ?_)
  refine lv_iconst (v := 0) hx hb dX4_leakCount_2 (by decide) ?_
  obtain ⟨v2, ev2, hf⟩ := letb_w hf
  refine lv_nmi ev2 ?_
  refine lv_istore_n (lv' := [(2, .int v2), (1, .int v1), (0, .ref (κ 0))]) hx hb dX4_leakCount_3 rfl hl (by decide) rfl (fun ls hl => ?_)
  refine loopF_w (P := fun (g : Int32 → Int32 → SX → Option (Int32 × SX)) => ∀ (x1_4 : Int32) (x2_4 : Int32) (σ_4 : SX), g x1_4 x2_4 σ_4 = some (r, σ') → ∀ (H : Heap) (locs : List Loc) (ls : Array Slot), va_P D vwCl (gw 5 κ (mC cI cII κ σ_4)) H → va_S (gA 5 κ) s.heap H locs → lv_has ls 4 [(0, .ref (κ 0)), (1, .int x1_4), (2, .int x2_4)] → W p l e ({ frames := 6, cells := 0, slots := 0, locals := 137 } : Room) s m args below meth c H locs 0 0 (MQ below (QI D cI cII 5 κ (mC cI cII κ σ') r) args s 0 0 (gA 5 κ)) (F0 m 4 ls [])) (fun _ _ _ h => by simp at h) ?_ FU _ _ _ hf _ _ _ hP hS (lv_sub hl [2, 1, 0] rfl)
  intro rec4 ih4 x1_4 x2_4 σ_4 hf H locs ls hP hS hl
  unfold bd_X4_leakCount_4 at hf
  refine lv_iload_n hx hb dX4_leakCount_4 rfl (lv_at hl 2 rfl) ?_
  refine lv_aload_n hx hb dX4_leakCount_5 rfl (lv_at hl 0 rfl) ?_
  refine g_get (q := 0) (ci := 4) (k := 1) (ref := RX4) (C := RX4) (T := TX4) (N := 12) (index := 9) (v := .int ((σ_4.1 1))) S hK hP hiX4 (by decide) rfl rfl (by decide) rfl (by decide +kernel) rfl dX4_leakCount_6 ?_
  refine lv_icmp_ge (tgt := 59) hx hb dX4_leakCount_9 (by decide) (fun c9 => ?_) (fun c9 => ?_)
  · have hf := iteT c9 hf
    refine lv_iload_n hx hb dX4_leakCount_59 rfl (lv_at hl 1 rfl) ?_
    obtain ⟨h8, h9⟩ := Prod.mk.inj (Option.some.inj hf)
    subst h9
    exact g_iret S hr hlk hK hP hS h8 dX4_leakCount_60
  · have hf := iteF c9 hf
    refine lv_iconst (v := 0) hx hb dX4_leakCount_12 (by decide) ?_
    obtain ⟨v3, ev3, hf⟩ := letb_w hf
    refine lv_nmi ev3 ?_
    refine lv_istore_n (lv' := [(3, .int v3), (0, .ref (κ 0)), (1, .int x1_4), (2, .int x2_4)]) hx hb dX4_leakCount_13 rfl hl (by decide) rfl (fun ls hl => ?_)
    refine loopF_w (P := fun (g : Int32 → Int32 → SX → Option (Int32 × SX)) => ∀ (x1_14 : Int32) (x3_14 : Int32) (σ_14 : SX), g x1_14 x3_14 σ_14 = some (r, σ') → ∀ (H : Heap) (locs : List Loc) (ls : Array Slot), va_P D vwCl (gw 5 κ (mC cI cII κ σ_14)) H → va_S (gA 5 κ) s.heap H locs → lv_has ls 4 [(0, .ref (κ 0)), (1, .int x1_14), (2, .int x2_4), (3, .int x3_14)] → W p l e ({ frames := 6, cells := 0, slots := 0, locals := 137 } : Room) s m args below meth c H locs 0 0 (MQ below (QI D cI cII 5 κ (mC cI cII κ σ') r) args s 0 0 (gA 5 κ)) (F0 m 14 ls [])) (fun _ _ _ h => by simp at h) ?_ FU _ _ _ hf _ _ _ hP hS (lv_sub hl [1, 2, 3, 0] rfl)
    intro rec14 ih14 x1_14 x3_14 σ_14 hf H locs ls hP hS hl
    unfold bd_X4_leakCount_14 at hf
    refine lv_iload_n hx hb dX4_leakCount_14 rfl (lv_at hl 3 rfl) ?_
    refine lv_bipush (v := 6) hx hb dX4_leakCount_15 (by decide) ?_
    refine lv_icmp_ge (tgt := 53) hx hb dX4_leakCount_17 (by decide) (fun c17 => ?_) (fun c17 => ?_)
    · have hf := iteT c17 hf
      obtain ⟨v4, ev4, hf⟩ := letb_w hf
      refine lv_iinc (v := v4) (lv' := [(2, .int v4), (0, .ref (κ 0)), (1, .int x1_14), (3, .int x3_14)]) hx hb dX4_leakCount_53 hl (k := 2) rfl (by rw [ev4]; rfl) (by decide) rfl (fun ls hl => ?_)
      refine lv_goto (tgt := 4) hx hb dX4_leakCount_56 (by decide) ?_
      exact ih4 _ _ _ hf _ _ _ hP hS (lv_sub hl [1, 2, 0] rfl)
    · have hf := iteF c17 hf
      refine lv_iload_n hx hb dX4_leakCount_20 rfl (lv_at hl 1 rfl) ?_
      refine lv_aload_n hx hb dX4_leakCount_21 rfl (lv_at hl 0 rfl) ?_
      refine lv_iload_n hx hb dX4_leakCount_22 rfl (lv_at hl 2 rfl) ?_
      refine lv_iload_n hx hb dX4_leakCount_23 rfl (lv_at hl 3 rfl) ?_
      obtain ⟨v5, hq24, hf⟩ := obw hf
      refine g_calli (va_runV (As := [.int x2_4, .int x3_14]) (rest := [.int x1_14]) S (met_X4_isAsked l D cI cII κ hκ σ_14 x2_4 x3_14 v5 hq24) (cwV 2 S.2.2.2.2 gX4_leakCount_X4_isAsked rfl rfl rfl (by decide +kernel) ⟨Nat.le_of_ble_eq_true rfl, Nat.le_of_ble_eq_true rfl⟩) (g_preV (N := 12) (T := TX4) hK hP (Nat.le_refl _) (by decide) rfl rfl) rfl rfl hl.1 rfl (lv_room (Nat.le_of_ble_eq_true rfl)) dX4_leakCount_24 ⟨Nat.le_of_ble_eq_true rfl, Nat.le_of_ble_eq_true rfl⟩) (Nat.le_refl _) hκ hA hP hS (fun j h1 h2 => absurd h2 (Nat.not_lt.mpr h1)) (fun H locs hP hS => ?_)
      obtain ⟨K45, hK45, hf⟩ := letb_w hf
      have J45 : ∀ (z1_45 : Int32) (τ_45 : SX), K45 z1_45 τ_45 = some (r, σ') → ∀ (H : Heap) (locs : List Loc) (ls : Array Slot), va_P D vwCl (gw 5 κ (mC cI cII κ τ_45)) H → va_S (gA 5 κ) s.heap H locs → lv_has ls 4 [(0, .ref (κ 0)), (2, .int x2_4), (3, .int x3_14)] → W p l e ({ frames := 6, cells := 0, slots := 0, locals := 137 } : Room) s m args below meth c H locs 0 0 (MQ below (QI D cI cII 5 κ (mC cI cII κ σ') r) args s 0 0 (gA 5 κ)) (F0 m 45 ls [.int z1_45, .int x1_14]) := by
        intro z1_45 τ_45 hf H locs ls hP hS hl
        rw [hK45] at hf
        refine lv_iadd hx hb dX4_leakCount_45 ?_
        obtain ⟨v6, ev6, hf⟩ := letb_w hf
        refine lv_nmi ev6 ?_
        refine lv_istore_n (lv' := [(1, .int v6), (0, .ref (κ 0)), (2, .int x2_4), (3, .int x3_14)]) hx hb dX4_leakCount_46 rfl hl (by decide) rfl (fun ls hl => ?_)
        obtain ⟨v7, ev7, hf⟩ := letb_w hf
        refine lv_iinc (v := v7) (lv' := [(3, .int v7), (1, .int v6), (0, .ref (κ 0)), (2, .int x2_4)]) hx hb dX4_leakCount_47 hl (k := 3) rfl (by rw [ev7]; rfl) (by decide) rfl (fun ls hl => ?_)
        refine lv_goto (tgt := 14) hx hb dX4_leakCount_50 (by decide) ?_
        exact ih14 _ _ _ hf _ _ _ hP hS (lv_sub hl [2, 1, 3, 0] rfl)
      obtain ⟨K44, hK44, hf⟩ := letb_w hf
      have J44 : ∀ (τ_44 : SX), K44 τ_44 = some (r, σ') → ∀ (H : Heap) (locs : List Loc) (ls : Array Slot), va_P D vwCl (gw 5 κ (mC cI cII κ τ_44)) H → va_S (gA 5 κ) s.heap H locs → lv_has ls 4 [(0, .ref (κ 0)), (2, .int x2_4), (3, .int x3_14)] → W p l e ({ frames := 6, cells := 0, slots := 0, locals := 137 } : Room) s m args below meth c H locs 0 0 (MQ below (QI D cI cII 5 κ (mC cI cII κ σ') r) args s 0 0 (gA 5 κ)) (F0 m 44 ls [.int x1_14]) := by
        intro τ_44 hf H locs ls hP hS hl
        rw [hK44] at hf
        refine lv_iconst (v := 0) hx hb dX4_leakCount_44 (by decide) ?_
        exact J45 _ _ hf _ _ _ hP hS (lv_sub hl [0, 1, 2] rfl)
      refine lv_if_eq (tgt := 44) hx hb dX4_leakCount_27 (by decide) (fun c27 => ?_) (fun c27 => ?_)
      · have hf := iteT c27 hf
        exact J44 _ hf _ _ _ hP hS (lv_sub hl [0, 2, 3] rfl)
      · have hf := iteF c27 hf
        refine lv_aload_n hx hb dX4_leakCount_30 rfl (lv_at hl 0 rfl) ?_
        refine lv_iload_n hx hb dX4_leakCount_31 rfl (lv_at hl 2 rfl) ?_
        refine lv_iload_n hx hb dX4_leakCount_32 rfl (lv_at hl 3 rfl) ?_
        obtain ⟨v9, σ8, hq33, hf⟩ := bind2_w hf
        refine g_calli (va_runV (As := [.int x2_4, .int x3_14]) (rest := [.int x1_14]) S (met_X4_firstPreventer l D cI cII κ hκ σ_14 x2_4 x3_14 v9 σ8 hq33) (cwV 2 S.2.2.2.2 gX4_leakCount_X4_firstPreventer rfl rfl rfl (by decide +kernel) ⟨Nat.le_of_ble_eq_true rfl, Nat.le_of_ble_eq_true rfl⟩) (g_preV (N := 12) (T := TX4) hK hP (Nat.le_refl _) (by decide) rfl rfl) rfl rfl hl.1 rfl (lv_room (Nat.le_of_ble_eq_true rfl)) dX4_leakCount_33 ⟨Nat.le_of_ble_eq_true rfl, Nat.le_of_ble_eq_true rfl⟩) (Nat.le_refl _) hκ hA hP hS (fun j h1 h2 => absurd h2 (Nat.not_lt.mpr h1)) (fun H locs hP hS => ?_)
        refine lv_iconst (v := -1) hx hb dX4_leakCount_36 (by decide) ?_
        refine lv_icmp_ne (tgt := 44) hx hb dX4_leakCount_37 (by decide) (fun c37 => ?_) (fun c37 => ?_)
        · have hf := iteT c37 hf
          exact J44 _ hf _ _ _ hP hS (lv_sub hl [0, 2, 3] rfl)
        · have hf := iteN c37 hf
          refine lv_iconst (v := 1) hx hb dX4_leakCount_40 (by decide) ?_
          refine lv_goto (tgt := 45) hx hb dX4_leakCount_41 (by decide) ?_
          exact J45 _ _ hf _ _ _ hP hS (lv_sub hl [0, 2, 3] rfl)

set_option maxRecDepth 100000 in
set_option maxHeartbeats 4000000 in
theorem met_X4_leaks (l : Launch) (D : va_G) (cI cII : ClassId) (κ : Nat → Nat) (hκ : Inj 5 κ) (σ : SX)  (r : Int32) (σ' : SX) (hf : fn_X4_leaks σ  = some (r, σ')) : Met l yX4_leaks wsX4_leaks ({ frames := 7, cells := 0, slots := 0, locals := 160 } : Room) (va_Pc [.ref (κ 0)] (mP D cI cII κ σ)) (QI D cI cII 5 κ (mC cI cII κ σ') r) 0 0 (gA 5 κ) := by
  refine g_enter (cc := cX4_leaks) (maxL := 1) (ret := (some .int)) (by decide) rfl (Nat.le_of_ble_eq_true rfl) ?_
  intro p e s m args below meth c ls S hr hlk _ hB hl
  have S : CallFix p m c cX4_leaks 1 s args wsX4_leaks RX4 := S
  obtain ⟨hP, hK⟩ := hB
  have hl : lv_has ls 1 [(0, .ref (κ 0))] := hl
  have hS : va_S (gA 5 κ) s.heap s.heap [] := va_S.rf
  have hA : ∀ k, k < 5 → gA 5 κ (κ k) := gA_in
  obtain ⟨hx, hb, hml, hown, hts⟩ := id S
  have hiX4 : ∀ w ∈ u_ws RX4 TX4 12, w ∈ wsX4_leaks := by decide +kernel
  unfold fn_X4_leaks at hf
  refine lv_aload_n hx hb dX4_leaks_0 rfl (lv_at hl 0 rfl) ?_
  refine lv_iconst (v := 0) hx hb dX4_leaks_1 (by decide) ?_
  obtain ⟨σ1, eσ1, hf⟩ := letb_w hf
  refine g_put (q := 0) (ci := 4) (k := 0) (ref := RX4) (C := RX4) (T := TX4) (N := 12) (index := 26) (ty := .int) (f' := (mC cI cII κ σ1)) S hK hP hκ hA hS hiX4 tyX4_ok nmX4 (by decide) rfl rfl (by decide) rfl (by decide +kernel) rfl (by decide +kernel) rfl rfl (Nat.le_of_ble_eq_true rfl) (fun j _ => by rw [eσ1]; exact mC_p0 j) dX4_leaks_2 (fun H locs hP hS => ?_)
  refine lv_aload_n hx hb dX4_leaks_5 rfl (lv_at hl 0 rfl) ?_
  obtain ⟨v3, σ2, hq6, hf⟩ := bind2_w hf
  refine g_calli (va_runV (As := []) (rest := []) S (met_X4_leakCount l D cI cII κ hκ σ1 v3 σ2 hq6) (cwV 0 S.2.2.2.2 gX4_leaks_X4_leakCount rfl rfl rfl (by decide +kernel) ⟨Nat.le_of_ble_eq_true rfl, Nat.le_of_ble_eq_true rfl⟩) (g_preV (N := 12) (T := TX4) hK hP (Nat.le_refl _) (by decide) rfl rfl) rfl rfl hl.1 rfl (lv_room (Nat.le_of_ble_eq_true rfl)) dX4_leaks_6 ⟨Nat.le_of_ble_eq_true rfl, Nat.le_of_ble_eq_true rfl⟩) (Nat.le_refl _) hκ hA hP hS (fun j h1 h2 => absurd h2 (Nat.not_lt.mpr h1)) (fun H locs hP hS => ?_)
  obtain ⟨h8, h9⟩ := Prod.mk.inj (Option.some.inj hf)
  subst h9
  exact g_iret S hr hlk hK hP hS h8 dX4_leaks_9

set_option maxRecDepth 100000 in
set_option maxHeartbeats 4000000 in
theorem met_X4_firstMarking (l : Launch) (D : va_G) (cI cII : ClassId) (κ : Nat → Nat) (hκ : Inj 5 κ) (σ : SX)  (r : Int32) (hf : fn_X4_firstMarking σ  = some r) : Met l yX4_firstMarking wsX4_firstMarking ({ frames := 1, cells := 0, slots := 0, locals := 21 } : Room) (va_Pc [.ref (κ 0)] (mP D cI cII κ σ)) (QI D cI cII 5 κ (mC cI cII κ σ) r) 0 0 (gA 5 κ) := by
  refine g_enter (cc := cX4_firstMarking) (maxL := 3) (ret := (some .int)) (by decide) rfl (Nat.le_of_ble_eq_true rfl) ?_
  intro p e s m args below meth c ls S hr hlk _ hB hl
  have S : CallFix p m c cX4_firstMarking 3 s args wsX4_firstMarking RX4 := S
  obtain ⟨hP, hK⟩ := hB
  have hl : lv_has ls 3 [(0, .ref (κ 0))] := hl
  have hS : va_S (gA 5 κ) s.heap s.heap [] := va_S.rf
  have hA : ∀ k, k < 5 → gA 5 κ (κ k) := gA_in
  obtain ⟨hx, hb, hml, hown, hts⟩ := id S
  have hiX4 : ∀ w ∈ u_ws RX4 TX4 12, w ∈ wsX4_firstMarking := by decide +kernel
  unfold fn_X4_firstMarking at hf
  refine lv_iconst (v := 0) hx hb dX4_firstMarking_0 (by decide) ?_
  obtain ⟨v1, ev1, hf⟩ := letb_w hf
  refine lv_nmi ev1 ?_
  refine lv_istore_n (lv' := [(1, .int v1), (0, .ref (κ 0))]) hx hb dX4_firstMarking_1 rfl hl (by decide) rfl (fun ls hl => ?_)
  refine lv_iconst (v := 0) hx hb dX4_firstMarking_2 (by decide) ?_
  obtain ⟨v2, ev2, hf⟩ := letb_w hf
  refine lv_nmi ev2 ?_
  refine lv_istore_n (lv' := [(2, .int v2), (1, .int v1), (0, .ref (κ 0))]) hx hb dX4_firstMarking_3 rfl hl (by decide) rfl (fun ls hl => ?_)
  refine loopF_w (P := fun (g : Int32 → Int32 → Option (Int32)) => ∀ (x1_4 : Int32) (x2_4 : Int32), g x1_4 x2_4 = some r → ∀ (H : Heap) (locs : List Loc) (ls : Array Slot), va_P D vwCl (gw 5 κ (mC cI cII κ σ)) H → va_S (gA 5 κ) s.heap H locs → lv_has ls 3 [(0, .ref (κ 0)), (1, .int x1_4), (2, .int x2_4)] → W p l e ({ frames := 1, cells := 0, slots := 0, locals := 21 } : Room) s m args below meth c H locs 0 0 (MQ below (QI D cI cII 5 κ (mC cI cII κ σ) r) args s 0 0 (gA 5 κ)) (F0 m 4 ls [])) (fun _ _ h => by simp at h) ?_ FU _ _ hf _ _ _ hP hS (lv_sub hl [2, 1, 0] rfl)
  intro rec4 ih4 x1_4 x2_4 hf H locs ls hP hS hl
  unfold bd_X4_firstMarking_4 at hf
  refine lv_iload_n hx hb dX4_firstMarking_4 rfl (lv_at hl 2 rfl) ?_
  refine lv_aload_n hx hb dX4_firstMarking_5 rfl (lv_at hl 0 rfl) ?_
  refine g_get (q := 0) (ci := 4) (k := 7) (ref := RX4) (C := RX4) (T := TX4) (N := 12) (index := 102) (v := .int ((σ.1 5))) S hK hP hiX4 (by decide) rfl rfl (by decide) rfl (by decide +kernel) rfl dX4_firstMarking_6 ?_
  refine lv_icmp_ge (tgt := 37) hx hb dX4_firstMarking_9 (by decide) (fun c9 => ?_) (fun c9 => ?_)
  · have hf := iteT c9 hf
    refine lv_iload_n hx hb dX4_firstMarking_37 rfl (lv_at hl 1 rfl) ?_
    exact g_iret S hr hlk hK hP hS (Option.some.inj hf) dX4_firstMarking_38
  · have hf := iteF c9 hf
    refine lv_aload_n hx hb dX4_firstMarking_12 rfl (lv_at hl 0 rfl) ?_
    refine g_get (q := 0) (ci := 4) (k := 8) (ref := RX4) (C := RX4) (T := TX4) (N := 12) (index := 20) (v := .ref (κ 3)) S hK hP hiX4 (by decide) rfl rfl (by decide) rfl (by decide +kernel) rfl dX4_firstMarking_13 ?_
    refine lv_iload_n hx hb dX4_firstMarking_16 rfl (lv_at hl 2 rfl) ?_
    obtain ⟨v3, hv3, hf⟩ := obw hf
    refine g_ald (a := 3) (len := 30) S hK hP (by decide) (mC_arr (by decide) rfl) hv3 dX4_firstMarking_17 ?_
    refine lv_iconst (v := 0) hx hb dX4_firstMarking_18 (by decide) ?_
    obtain ⟨v4, hq19, hf⟩ := obw hf
    refine g_calli (va_runS (As := [.int v3, .int 0]) (rest := []) S (met_X4_has l D cI cII κ hκ σ v3 0 v4 hq19) (va_cwS 2 S.2.2.2.2 gX4_firstMarking_X4_has rfl rfl rfl (by decide +kernel) ⟨Nat.le_of_ble_eq_true rfl, Nat.le_of_ble_eq_true rfl⟩) (g_preS hK hP (Nat.le_refl _)) rfl rfl hl.1 rfl (lv_room (Nat.le_of_ble_eq_true rfl)) dX4_firstMarking_19 ⟨Nat.le_of_ble_eq_true rfl, Nat.le_of_ble_eq_true rfl⟩) (Nat.le_refl _) hκ hA hP hS (fun j h1 h2 => absurd h2 (Nat.not_lt.mpr h1)) (fun H locs hP hS => ?_)
    obtain ⟨K31, hK31, hf⟩ := letb_w hf
    have J31 : ∀ (y1_31 : Int32), K31 y1_31 = some r → ∀ (H : Heap) (locs : List Loc) (ls : Array Slot), va_P D vwCl (gw 5 κ (mC cI cII κ σ)) H → va_S (gA 5 κ) s.heap H locs → lv_has ls 3 [(0, .ref (κ 0)), (1, .int y1_31), (2, .int x2_4)] → W p l e ({ frames := 1, cells := 0, slots := 0, locals := 21 } : Room) s m args below meth c H locs 0 0 (MQ below (QI D cI cII 5 κ (mC cI cII κ σ) r) args s 0 0 (gA 5 κ)) (F0 m 31 ls []) := by
      intro y1_31 hf H locs ls hP hS hl
      rw [hK31] at hf
      obtain ⟨v5, ev5, hf⟩ := letb_w hf
      refine lv_iinc (v := v5) (lv' := [(2, .int v5), (0, .ref (κ 0)), (1, .int y1_31)]) hx hb dX4_firstMarking_31 hl (k := 2) rfl (by rw [ev5]; rfl) (by decide) rfl (fun ls hl => ?_)
      refine lv_goto (tgt := 4) hx hb dX4_firstMarking_34 (by decide) ?_
      exact ih4 _ _ hf _ _ _ hP hS (lv_sub hl [1, 2, 0] rfl)
    refine lv_if_eq (tgt := 31) hx hb dX4_firstMarking_22 (by decide) (fun c22 => ?_) (fun c22 => ?_)
    · have hf := iteT c22 hf
      exact J31 _ hf _ _ _ hP hS (lv_sub hl [0, 1, 2] rfl)
    · have hf := iteF c22 hf
      refine lv_iload_n hx hb dX4_firstMarking_25 rfl (lv_at hl 1 rfl) ?_
      refine lv_iconst (v := 1) hx hb dX4_firstMarking_26 (by decide) ?_
      refine lv_iload_n hx hb dX4_firstMarking_27 rfl (lv_at hl 2 rfl) ?_
      refine lv_ishl hx hb dX4_firstMarking_28 ?_
      refine lv_ior hx hb dX4_firstMarking_29 ?_
      obtain ⟨v6, ev6, hf⟩ := letb_w hf
      refine lv_nmi ev6 ?_
      refine lv_istore_n (lv' := [(1, .int v6), (0, .ref (κ 0)), (2, .int x2_4)]) hx hb dX4_firstMarking_30 rfl hl (by decide) rfl (fun ls hl => ?_)
      exact J31 _ hf _ _ _ hP hS (lv_sub hl [1, 0, 2] rfl)

set_option maxRecDepth 100000 in
set_option maxHeartbeats 4000000 in
theorem met_X4_hasNet (l : Launch) (D : va_G) (cI cII : ClassId) (κ : Nat → Nat) (hκ : Inj 5 κ) (σ : SX)  (r : Int32) (σ' : SX) (hf : fn_X4_hasNet σ  = some (r, σ')) : Met l yX4_hasNet wsX4_hasNet ({ frames := 0, cells := 0, slots := 0, locals := 0 } : Room) (va_Pc [.ref (κ 0)] (mP D cI cII κ σ)) (QI D cI cII 5 κ (mC cI cII κ σ') r) 0 0 (gA 5 κ) := by
  refine g_enter (cc := cX4_hasNet) (maxL := 1) (ret := (some .boolean)) (by decide) rfl (Nat.le_of_ble_eq_true rfl) ?_
  intro p e s m args below meth c ls S hr hlk _ hB hl
  have S : CallFix p m c cX4_hasNet 1 s args wsX4_hasNet RX4 := S
  obtain ⟨hP, hK⟩ := hB
  have hl : lv_has ls 1 [(0, .ref (κ 0))] := hl
  have hS : va_S (gA 5 κ) s.heap s.heap [] := va_S.rf
  have hA : ∀ k, k < 5 → gA 5 κ (κ k) := gA_in
  obtain ⟨hx, hb, hml, hown, hts⟩ := id S
  have hiX4 : ∀ w ∈ u_ws RX4 TX4 12, w ∈ wsX4_hasNet := by decide +kernel
  unfold fn_X4_hasNet at hf
  refine lv_aload_n hx hb dX4_hasNet_0 rfl (lv_at hl 0 rfl) ?_
  refine lv_iconst (v := 0) hx hb dX4_hasNet_1 (by decide) ?_
  obtain ⟨σ1, eσ1, hf⟩ := letb_w hf
  refine g_put (q := 0) (ci := 4) (k := 0) (ref := RX4) (C := RX4) (T := TX4) (N := 12) (index := 26) (ty := .int) (f' := (mC cI cII κ σ1)) S hK hP hκ hA hS hiX4 tyX4_ok nmX4 (by decide) rfl rfl (by decide) rfl (by decide +kernel) rfl (by decide +kernel) rfl rfl (Nat.le_of_ble_eq_true rfl) (fun j _ => by rw [eσ1]; exact mC_p0 j) dX4_hasNet_2 (fun H locs hP hS => ?_)
  refine lv_aload_n hx hb dX4_hasNet_5 rfl (lv_at hl 0 rfl) ?_
  refine g_get (q := 0) (ci := 4) (k := 6) (ref := RX4) (C := RX4) (T := TX4) (N := 12) (index := 33) (v := .int ((σ1.1 4))) S hK hP hiX4 (by decide) rfl rfl (by decide) rfl (by decide +kernel) rfl dX4_hasNet_6 ?_
  obtain ⟨w9, hw9, hf⟩ := obw hf
  obtain ⟨h8, h9⟩ := Prod.mk.inj (Option.some.inj hf)
  subst h8
  subst h9
  exact g_zret S hr hlk hK hP hS hw9 dX4_hasNet_9

set_option maxRecDepth 100000 in
set_option maxHeartbeats 4000000 in
theorem met_X4_asks (l : Launch) (D : va_G) (cI cII : ClassId) (κ : Nat → Nat) (hκ : Inj 5 κ) (σ : SX) (p1 : Int32) (p2 : Int32) (r : Int32) (σ' : SX) (hf : fn_X4_asks σ p1 p2 = some (r, σ')) : Met l yX4_asks wsX4_asks ({ frames := 0, cells := 0, slots := 0, locals := 0 } : Room) (va_Pc [.ref (κ 0), .int p1, .int p2] (mP D cI cII κ σ)) (QI D cI cII 5 κ (mC cI cII κ σ') r) 0 0 (gA 5 κ) := by
  refine g_enter (cc := cX4_asks) (maxL := 3) (ret := (some .boolean)) (by decide) rfl (Nat.le_of_ble_eq_true rfl) ?_
  intro p e s m args below meth c ls S hr hlk _ hB hl
  have S : CallFix p m c cX4_asks 3 s args wsX4_asks RX4 := S
  obtain ⟨hP, hK⟩ := hB
  have hl : lv_has ls 3 [(0, .ref (κ 0)), (1, .int p1), (2, .int p2)] := hl
  have hS : va_S (gA 5 κ) s.heap s.heap [] := va_S.rf
  have hA : ∀ k, k < 5 → gA 5 κ (κ k) := gA_in
  obtain ⟨hx, hb, hml, hown, hts⟩ := id S
  have hiX4 : ∀ w ∈ u_ws RX4 TX4 12, w ∈ wsX4_asks := by decide +kernel
  unfold fn_X4_asks at hf
  refine lv_aload_n hx hb dX4_asks_0 rfl (lv_at hl 0 rfl) ?_
  refine lv_aload_n hx hb dX4_asks_1 rfl (lv_at hl 0 rfl) ?_
  refine g_get (q := 0) (ci := 4) (k := 6) (ref := RX4) (C := RX4) (T := TX4) (N := 12) (index := 33) (v := .int ((σ.1 4))) S hK hP hiX4 (by decide) rfl rfl (by decide) rfl (by decide +kernel) rfl dX4_asks_2 ?_
  obtain ⟨K26, hK26, hf⟩ := letb_w hf
  have J26 : ∀ (z1_26 : Int32), K26 z1_26 = some (r, σ') → ∀ (H : Heap) (locs : List Loc) (ls : Array Slot), va_P D vwCl (gw 5 κ (mC cI cII κ σ)) H → va_S (gA 5 κ) s.heap H locs → lv_has ls 3 [(0, .ref (κ 0))] → W p l e ({ frames := 0, cells := 0, slots := 0, locals := 0 } : Room) s m args below meth c H locs 0 0 (MQ below (QI D cI cII 5 κ (mC cI cII κ σ') r) args s 0 0 (gA 5 κ)) (F0 m 26 ls [.int z1_26, .ref (κ 0)]) := by
    intro z1_26 hf H locs ls hP hS hl
    rw [hK26] at hf
    obtain ⟨σ1, eσ1, hf⟩ := letb_w hf
    refine g_put (q := 0) (ci := 4) (k := 0) (ref := RX4) (C := RX4) (T := TX4) (N := 12) (index := 26) (ty := .int) (f' := (mC cI cII κ σ1)) S hK hP hκ hA hS hiX4 tyX4_ok nmX4 (by decide) rfl rfl (by decide) rfl (by decide +kernel) rfl (by decide +kernel) rfl rfl (Nat.le_of_ble_eq_true rfl) (fun j _ => by rw [eσ1]; exact mC_p0 j) dX4_asks_26 (fun H locs hP hS => ?_)
    refine lv_aload_n hx hb dX4_asks_29 rfl (lv_at hl 0 rfl) ?_
    refine g_get (q := 0) (ci := 4) (k := 0) (ref := RX4) (C := RX4) (T := TX4) (N := 12) (index := 26) (v := .int ((σ1.1 0))) S hK hP hiX4 (by decide) rfl rfl (by decide) rfl (by decide +kernel) rfl dX4_asks_30 ?_
    refine lv_if_ne (tgt := 40) hx hb dX4_asks_33 (by decide) (fun c33 => ?_) (fun c33 => ?_)
    · have hf := iteT c33 hf
      refine lv_iconst (v := 0) hx hb dX4_asks_40 (by decide) ?_
      obtain ⟨w9, hw9, hf⟩ := obw hf
      obtain ⟨h8, h9⟩ := Prod.mk.inj (Option.some.inj hf)
      subst h8
      subst h9
      exact g_zret S hr hlk hK hP hS hw9 dX4_asks_41
    · have hf := iteN c33 hf
      refine lv_iconst (v := 1) hx hb dX4_asks_36 (by decide) ?_
      refine lv_goto (tgt := 41) hx hb dX4_asks_37 (by decide) ?_
      obtain ⟨w9, hw9, hf⟩ := obw hf
      obtain ⟨h8, h9⟩ := Prod.mk.inj (Option.some.inj hf)
      subst h8
      subst h9
      exact g_zret S hr hlk hK hP hS hw9 dX4_asks_41
  refine lv_if_ne (tgt := 12) hx hb dX4_asks_5 (by decide) (fun c5 => ?_) (fun c5 => ?_)
  · have hf := iteT c5 hf
    refine lv_iload_n hx hb dX4_asks_12 rfl (lv_at hl 1 rfl) ?_
    obtain ⟨K21, hK21, hf⟩ := letb_w hf
    have J21 : ∀ (_u : Unit), K21 _u = some (r, σ') → ∀ (H : Heap) (locs : List Loc) (ls : Array Slot), va_P D vwCl (gw 5 κ (mC cI cII κ σ)) H → va_S (gA 5 κ) s.heap H locs → lv_has ls 3 [(0, .ref (κ 0))] → W p l e ({ frames := 0, cells := 0, slots := 0, locals := 0 } : Room) s m args below meth c H locs 0 0 (MQ below (QI D cI cII 5 κ (mC cI cII κ σ') r) args s 0 0 (gA 5 κ)) (F0 m 21 ls [.ref (κ 0)]) := by
      intro _u hf H locs ls hP hS hl
      rw [hK21] at hf
      refine lv_iconst (v := 2) hx hb dX4_asks_21 (by decide) ?_
      refine lv_goto (tgt := 26) hx hb dX4_asks_22 (by decide) ?_
      exact J26 _ hf _ _ _ hP hS (lv_sub hl [0] rfl)
    refine lv_if_lt (tgt := 21) hx hb dX4_asks_13 (by decide) (fun c13 => ?_) (fun c13 => ?_)
    · have hf := iteT c13 hf
      exact J21 _ hf _ _ _ hP hS (lv_sub hl [0] rfl)
    · have hf := iteF c13 hf
      refine lv_iload_n hx hb dX4_asks_16 rfl (lv_at hl 1 rfl) ?_
      refine lv_iload_n hx hb dX4_asks_17 rfl (lv_at hl 2 rfl) ?_
      refine lv_icmp_lt (tgt := 25) hx hb dX4_asks_18 (by decide) (fun c18 => ?_) (fun c18 => ?_)
      · have hf := iteT c18 hf
        refine lv_iconst (v := 0) hx hb dX4_asks_25 (by decide) ?_
        exact J26 _ hf _ _ _ hP hS (lv_sub hl [0] rfl)
      · have hf := iteF c18 hf
        exact J21 _ hf _ _ _ hP hS (lv_sub hl [0] rfl)
  · have hf := iteN c5 hf
    refine lv_iconst (v := 1) hx hb dX4_asks_8 (by decide) ?_
    refine lv_goto (tgt := 26) hx hb dX4_asks_9 (by decide) ?_
    exact J26 _ hf _ _ _ hP hS (lv_sub hl [0] rfl)

set_option maxRecDepth 100000 in
set_option maxHeartbeats 4000000 in
theorem met_X4_placeRegion (l : Launch) (D : va_G) (cI cII : ClassId) (κ : Nat → Nat) (hκ : Inj 5 κ) (σ : SX) (p1 : Int32) (r : Int32) (σ' : SX) (hf : fn_X4_placeRegion σ p1 = some (r, σ')) : Met l yX4_placeRegion wsX4_placeRegion ({ frames := 1, cells := 0, slots := 0, locals := 22 } : Room) (va_Pc [.ref (κ 0), .int p1] (mP D cI cII κ σ)) (QI D cI cII 5 κ (mC cI cII κ σ') r) 0 0 (gA 5 κ) := by
  refine g_enter (cc := cX4_placeRegion) (maxL := 2) (ret := (some .int)) (by decide) rfl (Nat.le_of_ble_eq_true rfl) ?_
  intro p e s m args below meth c ls S hr hlk _ hB hl
  have S : CallFix p m c cX4_placeRegion 2 s args wsX4_placeRegion RX4 := S
  obtain ⟨hP, hK⟩ := hB
  have hl : lv_has ls 2 [(0, .ref (κ 0)), (1, .int p1)] := hl
  have hS : va_S (gA 5 κ) s.heap s.heap [] := va_S.rf
  have hA : ∀ k, k < 5 → gA 5 κ (κ k) := gA_in
  obtain ⟨hx, hb, hml, hown, hts⟩ := id S
  have hiX4 : ∀ w ∈ u_ws RX4 TX4 12, w ∈ wsX4_placeRegion := by decide +kernel
  unfold fn_X4_placeRegion at hf
  refine lv_aload_n hx hb dX4_placeRegion_0 rfl (lv_at hl 0 rfl) ?_
  refine lv_iload_n hx hb dX4_placeRegion_1 rfl (lv_at hl 1 rfl) ?_
  refine lv_aload_n hx hb dX4_placeRegion_2 rfl (lv_at hl 0 rfl) ?_
  refine g_get (q := 0) (ci := 4) (k := 7) (ref := RX4) (C := RX4) (T := TX4) (N := 12) (index := 102) (v := .int ((σ.1 5))) S hK hP hiX4 (by decide) rfl rfl (by decide) rfl (by decide +kernel) rfl dX4_placeRegion_3 ?_
  obtain ⟨v2, σ1, hq6, hf⟩ := bind2_w hf
  refine g_calli (va_runV (As := [.int p1, .int ((σ.1 5))]) (rest := []) S (met_X4_asks l D cI cII κ hκ σ p1 ((σ.1 5)) v2 σ1 hq6) (cwV 2 S.2.2.2.2 gX4_placeRegion_X4_asks rfl rfl rfl (by decide +kernel) ⟨Nat.le_of_ble_eq_true rfl, Nat.le_of_ble_eq_true rfl⟩) (g_preV (N := 12) (T := TX4) hK hP (Nat.le_refl _) (by decide) rfl rfl) rfl rfl hl.1 rfl (lv_room (Nat.le_of_ble_eq_true rfl)) dX4_placeRegion_6 ⟨Nat.le_of_ble_eq_true rfl, Nat.le_of_ble_eq_true rfl⟩) (Nat.le_refl _) hκ hA hP hS (fun j h1 h2 => absurd h2 (Nat.not_lt.mpr h1)) (fun H locs hP hS => ?_)
  refine lv_if_eq (tgt := 21) hx hb dX4_placeRegion_9 (by decide) (fun c9 => ?_) (fun c9 => ?_)
  · have hf := iteT c9 hf
    refine lv_iconst (v := 0) hx hb dX4_placeRegion_21 (by decide) ?_
    obtain ⟨h8, h9⟩ := Prod.mk.inj (Option.some.inj hf)
    subst h9
    exact g_iret S hr hlk hK hP hS h8 dX4_placeRegion_22
  · have hf := iteF c9 hf
    refine lv_aload_n hx hb dX4_placeRegion_12 rfl (lv_at hl 0 rfl) ?_
    refine g_get (q := 0) (ci := 4) (k := 8) (ref := RX4) (C := RX4) (T := TX4) (N := 12) (index := 20) (v := .ref (κ 3)) S hK hP hiX4 (by decide) rfl rfl (by decide) rfl (by decide +kernel) rfl dX4_placeRegion_13 ?_
    refine lv_iload_n hx hb dX4_placeRegion_16 rfl (lv_at hl 1 rfl) ?_
    obtain ⟨v3, hv3, hf⟩ := obw hf
    refine g_ald (a := 3) (len := 30) S hK hP (by decide) (mC_arr (by decide) rfl) hv3 dX4_placeRegion_17 ?_
    refine lv_goto (tgt := 22) hx hb dX4_placeRegion_18 (by decide) ?_
    obtain ⟨h8, h9⟩ := Prod.mk.inj (Option.some.inj hf)
    subst h9
    exact g_iret S hr hlk hK hP hS h8 dX4_placeRegion_22

set_option maxRecDepth 100000 in
set_option maxHeartbeats 4000000 in
theorem met_X4_crossed (l : Launch) (D : va_G) (cI cII : ClassId) (κ : Nat → Nat) (hκ : Inj 5 κ) (σ : SX) (p1 : Int32) (p2 : Int32) (r : Int32) (hf : fn_X4_crossed σ p1 p2 = some r) : Met l yX4_crossed wsX4_crossed ({ frames := 2, cells := 0, slots := 0, locals := 49 } : Room) (va_Pc [.ref (κ 0), .int p1, .int p2] (mP D cI cII κ σ)) (QI D cI cII 5 κ (mC cI cII κ σ) r) 0 0 (gA 5 κ) := by
  refine g_enter (cc := cX4_crossed) (maxL := 5) (ret := (some .int)) (by decide) rfl (Nat.le_of_ble_eq_true rfl) ?_
  intro p e s m args below meth c ls S hr hlk _ hB hl
  have S : CallFix p m c cX4_crossed 5 s args wsX4_crossed RX4 := S
  obtain ⟨hP, hK⟩ := hB
  have hl : lv_has ls 5 [(0, .ref (κ 0)), (1, .int p1), (2, .int p2)] := hl
  have hS : va_S (gA 5 κ) s.heap s.heap [] := va_S.rf
  have hA : ∀ k, k < 5 → gA 5 κ (κ k) := gA_in
  obtain ⟨hx, hb, hml, hown, hts⟩ := id S
  have hiX4 : ∀ w ∈ u_ws RX4 TX4 12, w ∈ wsX4_crossed := by decide +kernel
  unfold fn_X4_crossed at hf
  refine lv_iconst (v := 0) hx hb dX4_crossed_0 (by decide) ?_
  obtain ⟨v1, ev1, hf⟩ := letb_w hf
  refine lv_nmi ev1 ?_
  refine lv_istore_n (lv' := [(3, .int v1), (0, .ref (κ 0)), (1, .int p1), (2, .int p2)]) hx hb dX4_crossed_1 rfl hl (by decide) rfl (fun ls hl => ?_)
  refine lv_iconst (v := 0) hx hb dX4_crossed_2 (by decide) ?_
  obtain ⟨v2, ev2, hf⟩ := letb_w hf
  refine lv_nmi ev2 ?_
  refine lv_istore (lv' := [(4, .int v2), (3, .int v1), (0, .ref (κ 0)), (1, .int p1), (2, .int p2)]) hx hb dX4_crossed_3 hl (by decide) rfl (fun ls hl => ?_)
  refine loopF_w (P := fun (g : Int32 → Int32 → Option (Int32)) => ∀ (x3_5 : Int32) (x4_5 : Int32), g x3_5 x4_5 = some r → ∀ (H : Heap) (locs : List Loc) (ls : Array Slot), va_P D vwCl (gw 5 κ (mC cI cII κ σ)) H → va_S (gA 5 κ) s.heap H locs → lv_has ls 5 [(0, .ref (κ 0)), (1, .int p1), (2, .int p2), (3, .int x3_5), (4, .int x4_5)] → W p l e ({ frames := 2, cells := 0, slots := 0, locals := 49 } : Room) s m args below meth c H locs 0 0 (MQ below (QI D cI cII 5 κ (mC cI cII κ σ) r) args s 0 0 (gA 5 κ)) (F0 m 5 ls [])) (fun _ _ h => by simp at h) ?_ FU _ _ hf _ _ _ hP hS (lv_sub hl [2, 3, 4, 1, 0] rfl)
  intro rec5 ih5 x3_5 x4_5 hf H locs ls hP hS hl
  unfold bd_X4_crossed_5 at hf
  refine lv_iload hx hb dX4_crossed_5 (lv_at hl 4 rfl) ?_
  refine lv_aload_n hx hb dX4_crossed_7 rfl (lv_at hl 0 rfl) ?_
  refine g_get (q := 0) (ci := 4) (k := 7) (ref := RX4) (C := RX4) (T := TX4) (N := 12) (index := 102) (v := .int ((σ.1 5))) S hK hP hiX4 (by decide) rfl rfl (by decide) rfl (by decide +kernel) rfl dX4_crossed_8 ?_
  refine lv_icmp_ge (tgt := 43) hx hb dX4_crossed_11 (by decide) (fun c11 => ?_) (fun c11 => ?_)
  · have hf := iteT c11 hf
    refine lv_iload_n hx hb dX4_crossed_43 rfl (lv_at hl 3 rfl) ?_
    exact g_iret S hr hlk hK hP hS (Option.some.inj hf) dX4_crossed_44
  · have hf := iteF c11 hf
    refine lv_aload_n hx hb dX4_crossed_14 rfl (lv_at hl 0 rfl) ?_
    refine lv_aload_n hx hb dX4_crossed_15 rfl (lv_at hl 0 rfl) ?_
    refine g_get (q := 0) (ci := 4) (k := 8) (ref := RX4) (C := RX4) (T := TX4) (N := 12) (index := 20) (v := .ref (κ 3)) S hK hP hiX4 (by decide) rfl rfl (by decide) rfl (by decide +kernel) rfl dX4_crossed_16 ?_
    refine lv_iload hx hb dX4_crossed_19 (lv_at hl 4 rfl) ?_
    obtain ⟨v3, hv3, hf⟩ := obw hf
    refine g_ald (a := 3) (len := 30) S hK hP (by decide) (mC_arr (by decide) rfl) hv3 dX4_crossed_21 ?_
    refine lv_iload_n hx hb dX4_crossed_22 rfl (lv_at hl 1 rfl) ?_
    obtain ⟨v4, hq23, hf⟩ := obw hf
    refine g_calli (va_runV (As := [.int v3, .int p1]) (rest := []) S (met_X4_way l D cI cII κ hκ σ v3 p1 v4 hq23) (cwV 2 S.2.2.2.2 gX4_crossed_X4_way rfl rfl rfl (by decide +kernel) ⟨Nat.le_of_ble_eq_true rfl, Nat.le_of_ble_eq_true rfl⟩) (g_preV (N := 12) (T := TX4) hK hP (Nat.le_refl _) (by decide) rfl rfl) rfl rfl hl.1 rfl (lv_room (Nat.le_of_ble_eq_true rfl)) dX4_crossed_23 ⟨Nat.le_of_ble_eq_true rfl, Nat.le_of_ble_eq_true rfl⟩) (Nat.le_refl _) hκ hA hP hS (fun j h1 h2 => absurd h2 (Nat.not_lt.mpr h1)) (fun H locs hP hS => ?_)
    refine lv_iload_n hx hb dX4_crossed_26 rfl (lv_at hl 2 rfl) ?_
    obtain ⟨K37, hK37, hf⟩ := letb_w hf
    have J37 : ∀ (y3_37 : Int32), K37 y3_37 = some r → ∀ (H : Heap) (locs : List Loc) (ls : Array Slot), va_P D vwCl (gw 5 κ (mC cI cII κ σ)) H → va_S (gA 5 κ) s.heap H locs → lv_has ls 5 [(0, .ref (κ 0)), (1, .int p1), (2, .int p2), (3, .int y3_37), (4, .int x4_5)] → W p l e ({ frames := 2, cells := 0, slots := 0, locals := 49 } : Room) s m args below meth c H locs 0 0 (MQ below (QI D cI cII 5 κ (mC cI cII κ σ) r) args s 0 0 (gA 5 κ)) (F0 m 37 ls []) := by
      intro y3_37 hf H locs ls hP hS hl
      rw [hK37] at hf
      obtain ⟨v5, ev5, hf⟩ := letb_w hf
      refine lv_iinc (v := v5) (lv' := [(4, .int v5), (0, .ref (κ 0)), (1, .int p1), (2, .int p2), (3, .int y3_37)]) hx hb dX4_crossed_37 hl (k := 4) rfl (by rw [ev5]; rfl) (by decide) rfl (fun ls hl => ?_)
      refine lv_goto (tgt := 5) hx hb dX4_crossed_40 (by decide) ?_
      exact ih5 _ _ hf _ _ _ hP hS (lv_sub hl [1, 2, 3, 4, 0] rfl)
    refine lv_icmp_ne (tgt := 37) hx hb dX4_crossed_27 (by decide) (fun c27 => ?_) (fun c27 => ?_)
    · have hf := iteT c27 hf
      exact J37 _ hf _ _ _ hP hS (lv_sub hl [0, 1, 2, 3, 4] rfl)
    · have hf := iteN c27 hf
      refine lv_iload_n hx hb dX4_crossed_30 rfl (lv_at hl 3 rfl) ?_
      refine lv_iconst (v := 1) hx hb dX4_crossed_31 (by decide) ?_
      refine lv_iload hx hb dX4_crossed_32 (lv_at hl 4 rfl) ?_
      refine lv_ishl hx hb dX4_crossed_34 ?_
      refine lv_ior hx hb dX4_crossed_35 ?_
      obtain ⟨v6, ev6, hf⟩ := letb_w hf
      refine lv_nmi ev6 ?_
      refine lv_istore_n (lv' := [(3, .int v6), (0, .ref (κ 0)), (1, .int p1), (2, .int p2), (4, .int x4_5)]) hx hb dX4_crossed_36 rfl hl (by decide) rfl (fun ls hl => ?_)
      exact J37 _ hf _ _ _ hP hS (lv_sub hl [1, 2, 3, 0, 4] rfl)

set_option maxRecDepth 100000 in
set_option maxHeartbeats 4000000 in
theorem met_X4_consumed (l : Launch) (D : va_G) (cI cII : ClassId) (κ : Nat → Nat) (hκ : Inj 5 κ) (σ : SX) (p1 : Int32) (r : Int32) (σ' : SX) (hf : fn_X4_consumed σ p1 = some (r, σ')) : Met l yX4_consumed wsX4_consumed ({ frames := 3, cells := 0, slots := 0, locals := 73 } : Room) (va_Pc [.ref (κ 0), .int p1] (mP D cI cII κ σ)) (QI D cI cII 5 κ (mC cI cII κ σ') r) 0 0 (gA 5 κ) := by
  refine g_enter (cc := cX4_consumed) (maxL := 2) (ret := (some .int)) (by decide) rfl (Nat.le_of_ble_eq_true rfl) ?_
  intro p e s m args below meth c ls S hr hlk _ hB hl
  have S : CallFix p m c cX4_consumed 2 s args wsX4_consumed RX4 := S
  obtain ⟨hP, hK⟩ := hB
  have hl : lv_has ls 2 [(0, .ref (κ 0)), (1, .int p1)] := hl
  have hS : va_S (gA 5 κ) s.heap s.heap [] := va_S.rf
  have hA : ∀ k, k < 5 → gA 5 κ (κ k) := gA_in
  obtain ⟨hx, hb, hml, hown, hts⟩ := id S
  unfold fn_X4_consumed at hf
  refine lv_aload_n hx hb dX4_consumed_0 rfl (lv_at hl 0 rfl) ?_
  refine lv_iload_n hx hb dX4_consumed_1 rfl (lv_at hl 1 rfl) ?_
  refine lv_bipush (v := 6) hx hb dX4_consumed_2 (by decide) ?_
  obtain ⟨v2, σ1, hq4, hf⟩ := bind2_w hf
  refine g_calli (va_runV (As := [.int p1, .int 6]) (rest := []) S (met_X4_asks l D cI cII κ hκ σ p1 6 v2 σ1 hq4) (cwV 2 S.2.2.2.2 gX4_consumed_X4_asks rfl rfl rfl (by decide +kernel) ⟨Nat.le_of_ble_eq_true rfl, Nat.le_of_ble_eq_true rfl⟩) (g_preV (N := 12) (T := TX4) hK hP (Nat.le_refl _) (by decide) rfl rfl) rfl rfl hl.1 rfl (lv_room (Nat.le_of_ble_eq_true rfl)) dX4_consumed_4 ⟨Nat.le_of_ble_eq_true rfl, Nat.le_of_ble_eq_true rfl⟩) (Nat.le_refl _) hκ hA hP hS (fun j h1 h2 => absurd h2 (Nat.not_lt.mpr h1)) (fun H locs hP hS => ?_)
  refine lv_if_eq (tgt := 19) hx hb dX4_consumed_7 (by decide) (fun c7 => ?_) (fun c7 => ?_)
  · have hf := iteT c7 hf
    refine lv_iconst (v := 0) hx hb dX4_consumed_19 (by decide) ?_
    obtain ⟨h8, h9⟩ := Prod.mk.inj (Option.some.inj hf)
    subst h9
    exact g_iret S hr hlk hK hP hS h8 dX4_consumed_20
  · have hf := iteF c7 hf
    refine lv_aload_n hx hb dX4_consumed_10 rfl (lv_at hl 0 rfl) ?_
    refine lv_iload_n hx hb dX4_consumed_11 rfl (lv_at hl 1 rfl) ?_
    refine lv_iconst (v := 2) hx hb dX4_consumed_12 (by decide) ?_
    obtain ⟨v3, hq13, hf⟩ := obw hf
    refine g_calli (va_runV (As := [.int p1, .int 2]) (rest := []) S (met_X4_crossed l D cI cII κ hκ σ1 p1 2 v3 hq13) (cwV 2 S.2.2.2.2 gX4_consumed_X4_crossed rfl rfl rfl (by decide +kernel) ⟨Nat.le_of_ble_eq_true rfl, Nat.le_of_ble_eq_true rfl⟩) (g_preV (N := 12) (T := TX4) hK hP (Nat.le_refl _) (by decide) rfl rfl) rfl rfl hl.1 rfl (lv_room (Nat.le_of_ble_eq_true rfl)) dX4_consumed_13 ⟨Nat.le_of_ble_eq_true rfl, Nat.le_of_ble_eq_true rfl⟩) (Nat.le_refl _) hκ hA hP hS (fun j h1 h2 => absurd h2 (Nat.not_lt.mpr h1)) (fun H locs hP hS => ?_)
    refine lv_goto (tgt := 20) hx hb dX4_consumed_16 (by decide) ?_
    obtain ⟨h8, h9⟩ := Prod.mk.inj (Option.some.inj hf)
    subst h9
    exact g_iret S hr hlk hK hP hS h8 dX4_consumed_20

set_option maxRecDepth 100000 in
set_option maxHeartbeats 4000000 in
theorem met_X4_produced (l : Launch) (D : va_G) (cI cII : ClassId) (κ : Nat → Nat) (hκ : Inj 5 κ) (σ : SX) (p1 : Int32) (r : Int32) (σ' : SX) (hf : fn_X4_produced σ p1 = some (r, σ')) : Met l yX4_produced wsX4_produced ({ frames := 3, cells := 0, slots := 0, locals := 73 } : Room) (va_Pc [.ref (κ 0), .int p1] (mP D cI cII κ σ)) (QI D cI cII 5 κ (mC cI cII κ σ') r) 0 0 (gA 5 κ) := by
  refine g_enter (cc := cX4_produced) (maxL := 2) (ret := (some .int)) (by decide) rfl (Nat.le_of_ble_eq_true rfl) ?_
  intro p e s m args below meth c ls S hr hlk _ hB hl
  have S : CallFix p m c cX4_produced 2 s args wsX4_produced RX4 := S
  obtain ⟨hP, hK⟩ := hB
  have hl : lv_has ls 2 [(0, .ref (κ 0)), (1, .int p1)] := hl
  have hS : va_S (gA 5 κ) s.heap s.heap [] := va_S.rf
  have hA : ∀ k, k < 5 → gA 5 κ (κ k) := gA_in
  obtain ⟨hx, hb, hml, hown, hts⟩ := id S
  unfold fn_X4_produced at hf
  refine lv_aload_n hx hb dX4_produced_0 rfl (lv_at hl 0 rfl) ?_
  refine lv_iload_n hx hb dX4_produced_1 rfl (lv_at hl 1 rfl) ?_
  refine lv_bipush (v := 6) hx hb dX4_produced_2 (by decide) ?_
  obtain ⟨v2, σ1, hq4, hf⟩ := bind2_w hf
  refine g_calli (va_runV (As := [.int p1, .int 6]) (rest := []) S (met_X4_asks l D cI cII κ hκ σ p1 6 v2 σ1 hq4) (cwV 2 S.2.2.2.2 gX4_produced_X4_asks rfl rfl rfl (by decide +kernel) ⟨Nat.le_of_ble_eq_true rfl, Nat.le_of_ble_eq_true rfl⟩) (g_preV (N := 12) (T := TX4) hK hP (Nat.le_refl _) (by decide) rfl rfl) rfl rfl hl.1 rfl (lv_room (Nat.le_of_ble_eq_true rfl)) dX4_produced_4 ⟨Nat.le_of_ble_eq_true rfl, Nat.le_of_ble_eq_true rfl⟩) (Nat.le_refl _) hκ hA hP hS (fun j h1 h2 => absurd h2 (Nat.not_lt.mpr h1)) (fun H locs hP hS => ?_)
  refine lv_if_eq (tgt := 19) hx hb dX4_produced_7 (by decide) (fun c7 => ?_) (fun c7 => ?_)
  · have hf := iteT c7 hf
    refine lv_iconst (v := 0) hx hb dX4_produced_19 (by decide) ?_
    obtain ⟨h8, h9⟩ := Prod.mk.inj (Option.some.inj hf)
    subst h9
    exact g_iret S hr hlk hK hP hS h8 dX4_produced_20
  · have hf := iteF c7 hf
    refine lv_aload_n hx hb dX4_produced_10 rfl (lv_at hl 0 rfl) ?_
    refine lv_iload_n hx hb dX4_produced_11 rfl (lv_at hl 1 rfl) ?_
    refine lv_iconst (v := 1) hx hb dX4_produced_12 (by decide) ?_
    obtain ⟨v3, hq13, hf⟩ := obw hf
    refine g_calli (va_runV (As := [.int p1, .int 1]) (rest := []) S (met_X4_crossed l D cI cII κ hκ σ1 p1 1 v3 hq13) (cwV 2 S.2.2.2.2 gX4_produced_X4_crossed rfl rfl rfl (by decide +kernel) ⟨Nat.le_of_ble_eq_true rfl, Nat.le_of_ble_eq_true rfl⟩) (g_preV (N := 12) (T := TX4) hK hP (Nat.le_refl _) (by decide) rfl rfl) rfl rfl hl.1 rfl (lv_room (Nat.le_of_ble_eq_true rfl)) dX4_produced_13 ⟨Nat.le_of_ble_eq_true rfl, Nat.le_of_ble_eq_true rfl⟩) (Nat.le_refl _) hκ hA hP hS (fun j h1 h2 => absurd h2 (Nat.not_lt.mpr h1)) (fun H locs hP hS => ?_)
    refine lv_goto (tgt := 20) hx hb dX4_produced_16 (by decide) ?_
    obtain ⟨h8, h9⟩ := Prod.mk.inj (Option.some.inj hf)
    subst h9
    exact g_iret S hr hlk hK hP hS h8 dX4_produced_20

set_option maxRecDepth 100000 in
set_option maxHeartbeats 4000000 in
theorem met_X4_marking (l : Launch) (D : va_G) (cI cII : ClassId) (κ : Nat → Nat) (hκ : Inj 5 κ) (σ : SX)  (r : Int32) (σ' : SX) (hf : fn_X4_marking σ  = some (r, σ')) : Met l yX4_marking wsX4_marking ({ frames := 1, cells := 0, slots := 0, locals := 22 } : Room) (va_Pc [.ref (κ 0)] (mP D cI cII κ σ)) (QI D cI cII 5 κ (mC cI cII κ σ') r) 0 0 (gA 5 κ) := by
  refine g_enter (cc := cX4_marking) (maxL := 1) (ret := (some .int)) (by decide) rfl (Nat.le_of_ble_eq_true rfl) ?_
  intro p e s m args below meth c ls S hr hlk _ hB hl
  have S : CallFix p m c cX4_marking 1 s args wsX4_marking RX4 := S
  obtain ⟨hP, hK⟩ := hB
  have hl : lv_has ls 1 [(0, .ref (κ 0))] := hl
  have hS : va_S (gA 5 κ) s.heap s.heap [] := va_S.rf
  have hA : ∀ k, k < 5 → gA 5 κ (κ k) := gA_in
  obtain ⟨hx, hb, hml, hown, hts⟩ := id S
  have hiX4 : ∀ w ∈ u_ws RX4 TX4 12, w ∈ wsX4_marking := by decide +kernel
  unfold fn_X4_marking at hf
  refine lv_aload_n hx hb dX4_marking_0 rfl (lv_at hl 0 rfl) ?_
  refine lv_iconst (v := 0) hx hb dX4_marking_1 (by decide) ?_
  refine lv_iconst (v := 1) hx hb dX4_marking_2 (by decide) ?_
  obtain ⟨v2, σ1, hq3, hf⟩ := bind2_w hf
  refine g_calli (va_runV (As := [.int 0, .int 1]) (rest := []) S (met_X4_asks l D cI cII κ hκ σ 0 1 v2 σ1 hq3) (cwV 2 S.2.2.2.2 gX4_marking_X4_asks rfl rfl rfl (by decide +kernel) ⟨Nat.le_of_ble_eq_true rfl, Nat.le_of_ble_eq_true rfl⟩) (g_preV (N := 12) (T := TX4) hK hP (Nat.le_refl _) (by decide) rfl rfl) rfl rfl hl.1 rfl (lv_room (Nat.le_of_ble_eq_true rfl)) dX4_marking_3 ⟨Nat.le_of_ble_eq_true rfl, Nat.le_of_ble_eq_true rfl⟩) (Nat.le_refl _) hκ hA hP hS (fun j h1 h2 => absurd h2 (Nat.not_lt.mpr h1)) (fun H locs hP hS => ?_)
  refine lv_if_eq (tgt := 16) hx hb dX4_marking_6 (by decide) (fun c6 => ?_) (fun c6 => ?_)
  · have hf := iteT c6 hf
    refine lv_iconst (v := 0) hx hb dX4_marking_16 (by decide) ?_
    obtain ⟨h8, h9⟩ := Prod.mk.inj (Option.some.inj hf)
    subst h9
    exact g_iret S hr hlk hK hP hS h8 dX4_marking_17
  · have hf := iteF c6 hf
    refine lv_aload_n hx hb dX4_marking_9 rfl (lv_at hl 0 rfl) ?_
    refine g_get (q := 0) (ci := 4) (k := 9) (ref := RX4) (C := RX4) (T := TX4) (N := 12) (index := 111) (v := .int ((σ1.1 6))) S hK hP hiX4 (by decide) rfl rfl (by decide) rfl (by decide +kernel) rfl dX4_marking_10 ?_
    refine lv_goto (tgt := 17) hx hb dX4_marking_13 (by decide) ?_
    obtain ⟨h8, h9⟩ := Prod.mk.inj (Option.some.inj hf)
    subst h9
    exact g_iret S hr hlk hK hP hS h8 dX4_marking_17

set_option maxRecDepth 100000 in
set_option maxHeartbeats 4000000 in
theorem met_X4_behind (l : Launch) (D : va_G) (cI cII : ClassId) (κ : Nat → Nat) (hκ : Inj 5 κ) (σ : SX) (p1 : Int32) (p2 : Int32) (r : Int32) (hf : fn_X4_behind σ p1 p2 = some r) : Met l yX4_behind wsX4_behind ({ frames := 3, cells := 0, slots := 0, locals := 73 } : Room) (va_Pc [.ref (κ 0), .int p1, .int p2] (mP D cI cII κ σ)) (QI D cI cII 5 κ (mC cI cII κ σ) r) 0 0 (gA 5 κ) := by
  refine g_enter (cc := cX4_behind) (maxL := 5) (ret := (some .int)) (by decide) rfl (Nat.le_of_ble_eq_true rfl) ?_
  intro p e s m args below meth c ls S hr hlk _ hB hl
  have S : CallFix p m c cX4_behind 5 s args wsX4_behind RX4 := S
  obtain ⟨hP, hK⟩ := hB
  have hl : lv_has ls 5 [(0, .ref (κ 0)), (1, .int p1), (2, .int p2)] := hl
  have hS : va_S (gA 5 κ) s.heap s.heap [] := va_S.rf
  have hA : ∀ k, k < 5 → gA 5 κ (κ k) := gA_in
  obtain ⟨hx, hb, hml, hown, hts⟩ := id S
  unfold fn_X4_behind at hf
  refine lv_aload_n hx hb dX4_behind_0 rfl (lv_at hl 0 rfl) ?_
  refine lv_iload_n hx hb dX4_behind_1 rfl (lv_at hl 2 rfl) ?_
  refine lv_iconst (v := 2) hx hb dX4_behind_2 (by decide) ?_
  obtain ⟨v1, hq3, hf⟩ := obw hf
  refine g_calli (va_runV (As := [.int p2, .int 2]) (rest := []) S (met_X4_crossed l D cI cII κ hκ σ p2 2 v1 hq3) (cwV 2 S.2.2.2.2 gX4_behind_X4_crossed rfl rfl rfl (by decide +kernel) ⟨Nat.le_of_ble_eq_true rfl, Nat.le_of_ble_eq_true rfl⟩) (g_preV (N := 12) (T := TX4) hK hP (Nat.le_refl _) (by decide) rfl rfl) rfl rfl hl.1 rfl (lv_room (Nat.le_of_ble_eq_true rfl)) dX4_behind_3 ⟨Nat.le_of_ble_eq_true rfl, Nat.le_of_ble_eq_true rfl⟩) (Nat.le_refl _) hκ hA hP hS (fun j h1 h2 => absurd h2 (Nat.not_lt.mpr h1)) (fun H locs hP hS => ?_)
  obtain ⟨v2, ev2, hf⟩ := letb_w hf
  refine lv_nmi ev2 ?_
  refine lv_istore_n (lv' := [(3, .int v2), (0, .ref (κ 0)), (1, .int p1), (2, .int p2)]) hx hb dX4_behind_6 rfl hl (by decide) rfl (fun ls hl => ?_)
  refine lv_aload_n hx hb dX4_behind_7 rfl (lv_at hl 1 rfl) ?_
  refine lv_iload_n hx hb dX4_behind_8 rfl (lv_at hl 3 rfl) ?_
  refine lv_iconst (v := 1) hx hb dX4_behind_9 (by decide) ?_
  obtain ⟨v3, hq10, hf⟩ := obw hf
  refine g_calli (va_runV (As := [.int p2, .int 1]) (rest := []) S (met_X4_crossed l D cI cII κ hκ σ p2 1 v3 hq10) (cwV 2 S.2.2.2.2 gX4_behind_X4_crossed rfl rfl rfl (by decide +kernel) ⟨Nat.le_of_ble_eq_true rfl, Nat.le_of_ble_eq_true rfl⟩) (g_preV (N := 12) (T := TX4) hK hP (Nat.le_refl _) (by decide) rfl rfl) rfl rfl hl.1 rfl (lv_room (Nat.le_of_ble_eq_true rfl)) dX4_behind_10 ⟨Nat.le_of_ble_eq_true rfl, Nat.le_of_ble_eq_true rfl⟩) (Nat.le_refl _) hκ hA hP hS (fun j h1 h2 => absurd h2 (Nat.not_lt.mpr h1)) (fun H locs hP hS => ?_)
  obtain ⟨v4, ev4, hf⟩ := letb_w hf
  refine lv_nmi ev4 ?_
  refine lv_istore (lv' := [(4, .int v4), (3, .int v2), (0, .ref (κ 0)), (1, .int p1), (2, .int p2)]) hx hb dX4_behind_13 hl (by decide) rfl (fun ls hl => ?_)
  refine lv_aload_n hx hb dX4_behind_15 rfl (lv_at hl 2 rfl) ?_
  refine lv_iload_n hx hb dX4_behind_16 rfl (lv_at hl 4 rfl) ?_
  refine lv_iconst (v := 1) hx hb dX4_behind_17 (by decide) ?_
  obtain ⟨v5, hq18, hf⟩ := obw hf
  refine g_calli (va_runV (As := [.int p2, .int 1]) (rest := []) S (met_X4_ends l D cI cII κ hκ σ p2 1 v5 hq18) (cwV 2 S.2.2.2.2 gX4_behind_X4_ends rfl rfl rfl (by decide +kernel) ⟨Nat.le_of_ble_eq_true rfl, Nat.le_of_ble_eq_true rfl⟩) (g_preV (N := 12) (T := TX4) hK hP (Nat.le_refl _) (by decide) rfl rfl) rfl rfl hl.1 rfl (lv_room (Nat.le_of_ble_eq_true rfl)) dX4_behind_18 ⟨Nat.le_of_ble_eq_true rfl, Nat.le_of_ble_eq_true rfl⟩) (Nat.le_refl _) hκ hA hP hS (fun j h1 h2 => absurd h2 (Nat.not_lt.mpr h1)) (fun H locs hP hS => ?_)
  obtain ⟨K39, hK39, hf⟩ := letb_w hf
  have J39 : ∀ (_u : Unit), K39 _u = some r → ∀ (H : Heap) (locs : List Loc) (ls : Array Slot), va_P D vwCl (gw 5 κ (mC cI cII κ σ)) H → va_S (gA 5 κ) s.heap H locs → lv_has ls 5 [] → W p l e ({ frames := 3, cells := 0, slots := 0, locals := 73 } : Room) s m args below meth c H locs 0 0 (MQ below (QI D cI cII 5 κ (mC cI cII κ σ) r) args s 0 0 (gA 5 κ)) (F0 m 39 ls []) := by
    intro _u hf H locs ls hP hS hl
    rw [hK39] at hf
    refine lv_iconst (v := -1) hx hb dX4_behind_39 (by decide) ?_
    exact g_iret S hr hlk hK hP hS (Option.some.inj hf) dX4_behind_40
  refine lv_if_eq (tgt := 39) hx hb dX4_behind_21 (by decide) (fun c21 => ?_) (fun c21 => ?_)
  · have hf := iteT c21 hf
    exact J39 _ hf _ _ _ hP hS (lv_sub hl [] rfl)
  · have hf := iteF c21 hf
    refine lv_iload_n hx hb dX4_behind_24 rfl (lv_at hl 1 rfl) ?_
    refine lv_iload_n hx hb dX4_behind_25 rfl (lv_at hl 3 rfl) ?_
    refine lv_iconst (v := -1) hx hb dX4_behind_26 (by decide) ?_
    refine lv_ixor hx hb dX4_behind_27 ?_
    refine lv_iand hx hb dX4_behind_28 ?_
    refine lv_if_ne (tgt := 39) hx hb dX4_behind_29 (by decide) (fun c29 => ?_) (fun c29 => ?_)
    · have hf := iteT c29 hf
      exact J39 _ hf _ _ _ hP hS (lv_sub hl [] rfl)
    · have hf := iteN c29 hf
      refine lv_iload hx hb dX4_behind_32 (lv_at hl 0 rfl) ?_
      refine lv_iload_n hx hb dX4_behind_34 rfl (lv_at hl 3 rfl) ?_
      refine lv_iand hx hb dX4_behind_35 ?_
      refine lv_if_eq (tgt := 41) hx hb dX4_behind_36 (by decide) (fun c36 => ?_) (fun c36 => ?_)
      · have hf := iteT c36 hf
        refine lv_iload_n hx hb dX4_behind_41 rfl (lv_at hl 3 rfl) ?_
        refine lv_iload_n hx hb dX4_behind_42 rfl (lv_at hl 1 rfl) ?_
        refine lv_iconst (v := -1) hx hb dX4_behind_43 (by decide) ?_
        refine lv_ixor hx hb dX4_behind_44 ?_
        refine lv_iand hx hb dX4_behind_45 ?_
        refine lv_iload hx hb dX4_behind_46 (lv_at hl 0 rfl) ?_
        refine lv_ior hx hb dX4_behind_48 ?_
        exact g_iret S hr hlk hK hP hS (Option.some.inj hf) dX4_behind_49
      · have hf := iteF c36 hf
        exact J39 _ hf _ _ _ hP hS (lv_sub hl [] rfl)

set_option maxRecDepth 100000 in
set_option maxHeartbeats 4000000 in
theorem met_X4_fire (l : Launch) (D : va_G) (cI cII : ClassId) (κ : Nat → Nat) (hκ : Inj 5 κ) (σ : SX) (p1 : Int32) (r : Int32) (σ' : SX) (hf : fn_X4_fire σ p1 = some (r, σ')) : Met l yX4_fire wsX4_fire ({ frames := 4, cells := 0, slots := 0, locals := 97 } : Room) (va_Pc [.ref (κ 0), .int p1] (mP D cI cII κ σ)) (QI D cI cII 5 κ (mC cI cII κ σ') r) 0 0 (gA 5 κ) := by
  refine g_enter (cc := cX4_fire) (maxL := 3) (ret := (some .int)) (by decide) rfl (Nat.le_of_ble_eq_true rfl) ?_
  intro p e s m args below meth c ls S hr hlk _ hB hl
  have S : CallFix p m c cX4_fire 3 s args wsX4_fire RX4 := S
  obtain ⟨hP, hK⟩ := hB
  have hl : lv_has ls 3 [(0, .ref (κ 0)), (1, .int p1)] := hl
  have hS : va_S (gA 5 κ) s.heap s.heap [] := va_S.rf
  have hA : ∀ k, k < 5 → gA 5 κ (κ k) := gA_in
  obtain ⟨hx, hb, hml, hown, hts⟩ := id S
  have hiX4 : ∀ w ∈ u_ws RX4 TX4 12, w ∈ wsX4_fire := by decide +kernel
  unfold fn_X4_fire at hf
  refine lv_aload_n hx hb dX4_fire_0 rfl (lv_at hl 0 rfl) ?_
  refine lv_iload_n hx hb dX4_fire_1 rfl (lv_at hl 1 rfl) ?_
  refine lv_bipush (v := 6) hx hb dX4_fire_2 (by decide) ?_
  obtain ⟨v2, σ1, hq4, hf⟩ := bind2_w hf
  refine g_calli (va_runV (As := [.int p1, .int 6]) (rest := []) S (met_X4_asks l D cI cII κ hκ σ p1 6 v2 σ1 hq4) (cwV 2 S.2.2.2.2 gX4_fire_X4_asks rfl rfl rfl (by decide +kernel) ⟨Nat.le_of_ble_eq_true rfl, Nat.le_of_ble_eq_true rfl⟩) (g_preV (N := 12) (T := TX4) hK hP (Nat.le_refl _) (by decide) rfl rfl) rfl rfl hl.1 rfl (lv_room (Nat.le_of_ble_eq_true rfl)) dX4_fire_4 ⟨Nat.le_of_ble_eq_true rfl, Nat.le_of_ble_eq_true rfl⟩) (Nat.le_refl _) hκ hA hP hS (fun j h1 h2 => absurd h2 (Nat.not_lt.mpr h1)) (fun H locs hP hS => ?_)
  refine lv_if_ne (tgt := 12) hx hb dX4_fire_7 (by decide) (fun c7 => ?_) (fun c7 => ?_)
  · have hf := iteT c7 hf
    refine lv_aload_n hx hb dX4_fire_12 rfl (lv_at hl 0 rfl) ?_
    refine lv_aload_n hx hb dX4_fire_13 rfl (lv_at hl 0 rfl) ?_
    refine g_get (q := 0) (ci := 4) (k := 9) (ref := RX4) (C := RX4) (T := TX4) (N := 12) (index := 111) (v := .int ((σ1.1 6))) S hK hP hiX4 (by decide) rfl rfl (by decide) rfl (by decide +kernel) rfl dX4_fire_14 ?_
    refine lv_iload_n hx hb dX4_fire_17 rfl (lv_at hl 1 rfl) ?_
    obtain ⟨v3, hq18, hf⟩ := obw hf
    refine g_calli (va_runV (As := [.int ((σ1.1 6)), .int p1]) (rest := []) S (met_X4_behind l D cI cII κ hκ σ1 ((σ1.1 6)) p1 v3 hq18) (cwV 2 S.2.2.2.2 gX4_fire_X4_behind rfl rfl rfl (by decide +kernel) ⟨Nat.le_of_ble_eq_true rfl, Nat.le_of_ble_eq_true rfl⟩) (g_preV (N := 12) (T := TX4) hK hP (Nat.le_refl _) (by decide) rfl rfl) rfl rfl hl.1 rfl (lv_room (Nat.le_of_ble_eq_true rfl)) dX4_fire_18 ⟨Nat.le_of_ble_eq_true rfl, Nat.le_of_ble_eq_true rfl⟩) (Nat.le_refl _) hκ hA hP hS (fun j h1 h2 => absurd h2 (Nat.not_lt.mpr h1)) (fun H locs hP hS => ?_)
    obtain ⟨v4, ev4, hf⟩ := letb_w hf
    refine lv_nmi ev4 ?_
    refine lv_istore_n (lv' := [(2, .int v4), (0, .ref (κ 0)), (1, .int p1)]) hx hb dX4_fire_21 rfl hl (by decide) rfl (fun ls hl => ?_)
    refine lv_iload_n hx hb dX4_fire_22 rfl (lv_at hl 0 rfl) ?_
    refine lv_iconst (v := -1) hx hb dX4_fire_23 (by decide) ?_
    obtain ⟨K32, hK32, hf⟩ := letb_w hf
    have J32 : ∀ (τ_32 : SX), K32 τ_32 = some (r, σ') → ∀ (H : Heap) (locs : List Loc) (ls : Array Slot), va_P D vwCl (gw 5 κ (mC cI cII κ τ_32)) H → va_S (gA 5 κ) s.heap H locs → lv_has ls 3 [(2, .int v4)] → W p l e ({ frames := 4, cells := 0, slots := 0, locals := 97 } : Room) s m args below meth c H locs 0 0 (MQ below (QI D cI cII 5 κ (mC cI cII κ σ') r) args s 0 0 (gA 5 κ)) (F0 m 32 ls []) := by
      intro τ_32 hf H locs ls hP hS hl
      rw [hK32] at hf
      refine lv_iload_n hx hb dX4_fire_32 rfl (lv_at hl 0 rfl) ?_
      obtain ⟨h8, h9⟩ := Prod.mk.inj (Option.some.inj hf)
      subst h9
      exact g_iret S hr hlk hK hP hS h8 dX4_fire_33
    refine lv_icmp_eq (tgt := 32) hx hb dX4_fire_24 (by decide) (fun c24 => ?_) (fun c24 => ?_)
    · have hf := iteT c24 hf
      exact J32 _ hf _ _ _ hP hS (lv_sub hl [0] rfl)
    · have hf := iteF c24 hf
      refine lv_aload_n hx hb dX4_fire_27 rfl (lv_at hl 1 rfl) ?_
      refine lv_iload_n hx hb dX4_fire_28 rfl (lv_at hl 0 rfl) ?_
      obtain ⟨σ5, eσ5, hf⟩ := letb_w hf
      refine g_put (q := 0) (ci := 4) (k := 9) (ref := RX4) (C := RX4) (T := TX4) (N := 12) (index := 111) (ty := .int) (f' := (mC cI cII κ σ5)) S hK hP hκ hA hS hiX4 tyX4_ok nmX4 (by decide) rfl rfl (by decide) rfl (by decide +kernel) rfl (by decide +kernel) rfl rfl (Nat.le_of_ble_eq_true rfl) (fun j _ => by rw [eσ5]; exact mC_p6 j) dX4_fire_29 (fun H locs hP hS => ?_)
      exact J32 _ hf _ _ _ hP hS (lv_sub hl [0] rfl)
  · have hf := iteN c7 hf
    refine lv_iconst (v := 0) hx hb dX4_fire_10 (by decide) ?_
    obtain ⟨h8, h9⟩ := Prod.mk.inj (Option.some.inj hf)
    subst h9
    exact g_iret S hr hlk hK hP hS h8 dX4_fire_11

set_option maxRecDepth 100000 in
set_option maxHeartbeats 4000000 in
theorem met_X4_numberOf (l : Launch) (D : va_G) (cI cII : ClassId) (κ : Nat → Nat) (hκ : Inj 5 κ) (σ : SX) (p1 : Int32) (r : Int32) (hf : fn_X4_numberOf σ p1 = some r) : Met l yX4_numberOf wsX4_numberOf ({ frames := 0, cells := 0, slots := 0, locals := 0 } : Room) (va_Pc [.ref (κ 0), .int p1] (mP D cI cII κ σ)) (QI D cI cII 5 κ (mC cI cII κ σ) r) 0 0 (gA 5 κ) := by
  refine g_enter (cc := cX4_numberOf) (maxL := 3) (ret := (some .int)) (by decide) rfl (Nat.le_of_ble_eq_true rfl) ?_
  intro p e s m args below meth c ls S hr hlk _ hB hl
  have S : CallFix p m c cX4_numberOf 3 s args wsX4_numberOf RX4 := S
  obtain ⟨hP, hK⟩ := hB
  have hl : lv_has ls 3 [(0, .ref (κ 0)), (1, .int p1)] := hl
  have hS : va_S (gA 5 κ) s.heap s.heap [] := va_S.rf
  have hA : ∀ k, k < 5 → gA 5 κ (κ k) := gA_in
  obtain ⟨hx, hb, hml, hown, hts⟩ := id S
  have hiX4 : ∀ w ∈ u_ws RX4 TX4 12, w ∈ wsX4_numberOf := by decide +kernel
  unfold fn_X4_numberOf at hf
  refine lv_iconst (v := 0) hx hb dX4_numberOf_0 (by decide) ?_
  obtain ⟨v1, ev1, hf⟩ := letb_w hf
  refine lv_nmi ev1 ?_
  refine lv_istore_n (lv' := [(2, .int v1), (0, .ref (κ 0)), (1, .int p1)]) hx hb dX4_numberOf_1 rfl hl (by decide) rfl (fun ls hl => ?_)
  refine loopF_w (P := fun (g : Int32 → Option (Int32)) => ∀ (x2_2 : Int32), g x2_2 = some r → ∀ (H : Heap) (locs : List Loc) (ls : Array Slot), va_P D vwCl (gw 5 κ (mC cI cII κ σ)) H → va_S (gA 5 κ) s.heap H locs → lv_has ls 3 [(0, .ref (κ 0)), (1, .int p1), (2, .int x2_2)] → W p l e ({ frames := 0, cells := 0, slots := 0, locals := 0 } : Room) s m args below meth c H locs 0 0 (MQ below (QI D cI cII 5 κ (mC cI cII κ σ) r) args s 0 0 (gA 5 κ)) (F0 m 2 ls [])) (fun _ h => by simp at h) ?_ FU _ hf _ _ _ hP hS (lv_sub hl [1, 2, 0] rfl)
  intro rec2 ih2 x2_2 hf H locs ls hP hS hl
  unfold bd_X4_numberOf_2 at hf
  refine lv_iload_n hx hb dX4_numberOf_2 rfl (lv_at hl 2 rfl) ?_
  refine lv_aload_n hx hb dX4_numberOf_3 rfl (lv_at hl 0 rfl) ?_
  refine g_get (q := 0) (ci := 4) (k := 10) (ref := RX4) (C := RX4) (T := TX4) (N := 12) (index := 123) (v := .int ((σ.1 7))) S hK hP hiX4 (by decide) rfl rfl (by decide) rfl (by decide +kernel) rfl dX4_numberOf_4 ?_
  refine lv_icmp_ge (tgt := 28) hx hb dX4_numberOf_7 (by decide) (fun c7 => ?_) (fun c7 => ?_)
  · have hf := iteT c7 hf
    refine lv_iconst (v := -1) hx hb dX4_numberOf_28 (by decide) ?_
    exact g_iret S hr hlk hK hP hS (Option.some.inj hf) dX4_numberOf_29
  · have hf := iteF c7 hf
    refine lv_aload_n hx hb dX4_numberOf_10 rfl (lv_at hl 0 rfl) ?_
    refine g_get (q := 0) (ci := 4) (k := 11) (ref := RX4) (C := RX4) (T := TX4) (N := 12) (index := 23) (v := .ref (κ 4)) S hK hP hiX4 (by decide) rfl rfl (by decide) rfl (by decide +kernel) rfl dX4_numberOf_11 ?_
    refine lv_iload_n hx hb dX4_numberOf_14 rfl (lv_at hl 2 rfl) ?_
    obtain ⟨v2, hv2, hf⟩ := obw hf
    refine g_ald (a := 4) (len := 200) S hK hP (by decide) (mC_arr (by decide) rfl) hv2 dX4_numberOf_15 ?_
    refine lv_iload_n hx hb dX4_numberOf_16 rfl (lv_at hl 1 rfl) ?_
    refine lv_icmp_ne (tgt := 22) hx hb dX4_numberOf_17 (by decide) (fun c17 => ?_) (fun c17 => ?_)
    · have hf := iteT c17 hf
      obtain ⟨v3, ev3, hf⟩ := letb_w hf
      refine lv_iinc (v := v3) (lv' := [(2, .int v3), (0, .ref (κ 0)), (1, .int p1)]) hx hb dX4_numberOf_22 hl (k := 2) rfl (by rw [ev3]; rfl) (by decide) rfl (fun ls hl => ?_)
      refine lv_goto (tgt := 2) hx hb dX4_numberOf_25 (by decide) ?_
      exact ih2 _ hf _ _ _ hP hS (lv_sub hl [1, 2, 0] rfl)
    · have hf := iteN c17 hf
      refine lv_iload_n hx hb dX4_numberOf_20 rfl (lv_at hl 2 rfl) ?_
      exact g_iret S hr hlk hK hP hS (Option.some.inj hf) dX4_numberOf_21

set_option maxRecDepth 100000 in
set_option maxHeartbeats 4000000 in
theorem met_X4_findMarkings (l : Launch) (D : va_G) (cI cII : ClassId) (κ : Nat → Nat) (hκ : Inj 5 κ) (σ : SX)  (σ' : SX) (hf : fn_X4_findMarkings σ  = some σ') : Met l yX4_findMarkings wsX4_findMarkings ({ frames := 4, cells := 0, slots := 0, locals := 97 } : Room) (va_Pc [.ref (κ 0)] (mP D cI cII κ σ)) (QV D cI cII 5 κ (mC cI cII κ σ')) 0 0 (gA 5 κ) := by
  refine g_enter (cc := cX4_findMarkings) (maxL := 4) (ret := none) (by decide) rfl (Nat.le_of_ble_eq_true rfl) ?_
  intro p e s m args below meth c ls S hr hlk _ hB hl
  have S : CallFix p m c cX4_findMarkings 4 s args wsX4_findMarkings RX4 := S
  obtain ⟨hP, hK⟩ := hB
  have hl : lv_has ls 4 [(0, .ref (κ 0))] := hl
  have hS : va_S (gA 5 κ) s.heap s.heap [] := va_S.rf
  have hA : ∀ k, k < 5 → gA 5 κ (κ k) := gA_in
  obtain ⟨hx, hb, hml, hown, hts⟩ := id S
  have hiX4 : ∀ w ∈ u_ws RX4 TX4 12, w ∈ wsX4_findMarkings := by decide +kernel
  unfold fn_X4_findMarkings at hf
  refine lv_aload_n hx hb dX4_findMarkings_0 rfl (lv_at hl 0 rfl) ?_
  refine g_get (q := 0) (ci := 4) (k := 11) (ref := RX4) (C := RX4) (T := TX4) (N := 12) (index := 23) (v := .ref (κ 4)) S hK hP hiX4 (by decide) rfl rfl (by decide) rfl (by decide +kernel) rfl dX4_findMarkings_1 ?_
  refine lv_iconst (v := 0) hx hb dX4_findMarkings_4 (by decide) ?_
  refine lv_aload_n hx hb dX4_findMarkings_5 rfl (lv_at hl 0 rfl) ?_
  obtain ⟨v1, hq6, hf⟩ := obw hf
  refine g_calli (va_runV (As := []) (rest := [.int 0, .ref (κ 4)]) S (met_X4_firstMarking l D cI cII κ hκ σ v1 hq6) (cwV 0 S.2.2.2.2 gX4_findMarkings_X4_firstMarking rfl rfl rfl (by decide +kernel) ⟨Nat.le_of_ble_eq_true rfl, Nat.le_of_ble_eq_true rfl⟩) (g_preV (N := 12) (T := TX4) hK hP (Nat.le_refl _) (by decide) rfl rfl) rfl rfl hl.1 rfl (lv_room (Nat.le_of_ble_eq_true rfl)) dX4_findMarkings_6 ⟨Nat.le_of_ble_eq_true rfl, Nat.le_of_ble_eq_true rfl⟩) (Nat.le_refl _) hκ hA hP hS (fun j h1 h2 => absurd h2 (Nat.not_lt.mpr h1)) (fun H locs hP hS => ?_)
  obtain ⟨σ2, hσ2, hf⟩ := obw hf
  refine g_ast (a := 4) (len := 200) (f' := (mC cI cII κ σ2)) S hK hP hκ hA hS (by decide) (mC_arr (by decide) rfl) hσ2 (fun j _ => mC_as hσ2 (by decide) rfl j) dX4_findMarkings_9 (fun H locs hP hS => ?_)
  refine lv_aload_n hx hb dX4_findMarkings_10 rfl (lv_at hl 0 rfl) ?_
  refine lv_iconst (v := 1) hx hb dX4_findMarkings_11 (by decide) ?_
  obtain ⟨σ3, eσ3, hf⟩ := letb_w hf
  refine g_put (q := 0) (ci := 4) (k := 10) (ref := RX4) (C := RX4) (T := TX4) (N := 12) (index := 123) (ty := .int) (f' := (mC cI cII κ σ3)) S hK hP hκ hA hS hiX4 tyX4_ok nmX4 (by decide) rfl rfl (by decide) rfl (by decide +kernel) rfl (by decide +kernel) rfl rfl (Nat.le_of_ble_eq_true rfl) (fun j _ => by rw [eσ3]; exact mC_p7 j) dX4_findMarkings_12 (fun H locs hP hS => ?_)
  refine lv_iconst (v := 0) hx hb dX4_findMarkings_15 (by decide) ?_
  obtain ⟨v4, ev4, hf⟩ := letb_w hf
  refine lv_nmi ev4 ?_
  refine lv_istore_n (lv' := [(1, .int v4), (0, .ref (κ 0))]) hx hb dX4_findMarkings_16 rfl hl (by decide) rfl (fun ls hl => ?_)
  refine loopF_w (P := fun (g : Int32 → SX → Option (SX)) => ∀ (x1_17 : Int32) (σ_17 : SX), g x1_17 σ_17 = some σ' → ∀ (H : Heap) (locs : List Loc) (ls : Array Slot), va_P D vwCl (gw 5 κ (mC cI cII κ σ_17)) H → va_S (gA 5 κ) s.heap H locs → lv_has ls 4 [(0, .ref (κ 0)), (1, .int x1_17)] → W p l e ({ frames := 4, cells := 0, slots := 0, locals := 97 } : Room) s m args below meth c H locs 0 0 (MQ below (QV D cI cII 5 κ (mC cI cII κ σ')) args s 0 0 (gA 5 κ)) (F0 m 17 ls [])) (fun _ _ h => by simp at h) ?_ FU _ _ hf _ _ _ hP hS (lv_sub hl [1, 0] rfl)
  intro rec17 ih17 x1_17 σ_17 hf H locs ls hP hS hl
  unfold bd_X4_findMarkings_17 at hf
  refine lv_iload_n hx hb dX4_findMarkings_17 rfl (lv_at hl 1 rfl) ?_
  refine lv_aload_n hx hb dX4_findMarkings_18 rfl (lv_at hl 0 rfl) ?_
  refine g_get (q := 0) (ci := 4) (k := 10) (ref := RX4) (C := RX4) (T := TX4) (N := 12) (index := 123) (v := .int ((σ_17.1 7))) S hK hP hiX4 (by decide) rfl rfl (by decide) rfl (by decide +kernel) rfl dX4_findMarkings_19 ?_
  refine lv_icmp_ge (tgt := 104) hx hb dX4_findMarkings_22 (by decide) (fun c22 => ?_) (fun c22 => ?_)
  · have hf := iteT c22 hf
    obtain rfl := Option.some.inj hf
    exact g_vret S hr hlk hK hP hS dX4_findMarkings_104
  · have hf := iteF c22 hf
    refine lv_iconst (v := 0) hx hb dX4_findMarkings_25 (by decide) ?_
    obtain ⟨v5, ev5, hf⟩ := letb_w hf
    refine lv_nmi ev5 ?_
    refine lv_istore_n (lv' := [(2, .int v5), (0, .ref (κ 0)), (1, .int x1_17)]) hx hb dX4_findMarkings_26 rfl hl (by decide) rfl (fun ls hl => ?_)
    refine loopF_w (P := fun (g : Int32 → SX → Option (SX)) => ∀ (x2_27 : Int32) (σ_27 : SX), g x2_27 σ_27 = some σ' → ∀ (H : Heap) (locs : List Loc) (ls : Array Slot), va_P D vwCl (gw 5 κ (mC cI cII κ σ_27)) H → va_S (gA 5 κ) s.heap H locs → lv_has ls 4 [(0, .ref (κ 0)), (1, .int x1_17), (2, .int x2_27)] → W p l e ({ frames := 4, cells := 0, slots := 0, locals := 97 } : Room) s m args below meth c H locs 0 0 (MQ below (QV D cI cII 5 κ (mC cI cII κ σ')) args s 0 0 (gA 5 κ)) (F0 m 27 ls [])) (fun _ _ h => by simp at h) ?_ FU _ _ hf _ _ _ hP hS (lv_sub hl [1, 2, 0] rfl)
    intro rec27 ih27 x2_27 σ_27 hf H locs ls hP hS hl
    unfold bd_X4_findMarkings_27 at hf
    refine lv_iload_n hx hb dX4_findMarkings_27 rfl (lv_at hl 2 rfl) ?_
    refine lv_bipush (v := 6) hx hb dX4_findMarkings_28 (by decide) ?_
    obtain ⟨K98, hK98, hf⟩ := letb_w hf
    have J98 : ∀ (_u : Unit), K98 _u = some σ' → ∀ (H : Heap) (locs : List Loc) (ls : Array Slot), va_P D vwCl (gw 5 κ (mC cI cII κ σ_27)) H → va_S (gA 5 κ) s.heap H locs → lv_has ls 4 [(0, .ref (κ 0)), (1, .int x1_17)] → W p l e ({ frames := 4, cells := 0, slots := 0, locals := 97 } : Room) s m args below meth c H locs 0 0 (MQ below (QV D cI cII 5 κ (mC cI cII κ σ')) args s 0 0 (gA 5 κ)) (F0 m 98 ls []) := by
      intro _u hf H locs ls hP hS hl
      rw [hK98] at hf
      obtain ⟨v6, ev6, hf⟩ := letb_w hf
      refine lv_iinc (v := v6) (lv' := [(1, .int v6), (0, .ref (κ 0))]) hx hb dX4_findMarkings_98 hl (k := 1) rfl (by rw [ev6]; rfl) (by decide) rfl (fun ls hl => ?_)
      refine lv_goto (tgt := 17) hx hb dX4_findMarkings_101 (by decide) ?_
      exact ih17 _ _ hf _ _ _ hP hS (lv_sub hl [1, 0] rfl)
    refine lv_icmp_ge (tgt := 98) hx hb dX4_findMarkings_30 (by decide) (fun c30 => ?_) (fun c30 => ?_)
    · have hf := iteT c30 hf
      exact J98 _ hf _ _ _ hP hS (lv_sub hl [0, 1] rfl)
    · have hf := iteF c30 hf
      refine lv_aload_n hx hb dX4_findMarkings_33 rfl (lv_at hl 0 rfl) ?_
      refine g_get (q := 0) (ci := 4) (k := 10) (ref := RX4) (C := RX4) (T := TX4) (N := 12) (index := 123) (v := .int ((σ_27.1 7))) S hK hP hiX4 (by decide) rfl rfl (by decide) rfl (by decide +kernel) rfl dX4_findMarkings_34 ?_
      refine lv_sipush (v := 200) hx hb dX4_findMarkings_37 (by decide) ?_
      refine lv_icmp_ge (tgt := 98) hx hb dX4_findMarkings_40 (by decide) (fun c40 => ?_) (fun c40 => ?_)
      · have hf := iteT c40 hf
        exact J98 _ hf _ _ _ hP hS (lv_sub hl [0, 1] rfl)
      · have hf := iteF c40 hf
        refine lv_aload_n hx hb dX4_findMarkings_43 rfl (lv_at hl 0 rfl) ?_
        refine lv_aload_n hx hb dX4_findMarkings_44 rfl (lv_at hl 0 rfl) ?_
        refine g_get (q := 0) (ci := 4) (k := 11) (ref := RX4) (C := RX4) (T := TX4) (N := 12) (index := 23) (v := .ref (κ 4)) S hK hP hiX4 (by decide) rfl rfl (by decide) rfl (by decide +kernel) rfl dX4_findMarkings_45 ?_
        refine lv_iload_n hx hb dX4_findMarkings_48 rfl (lv_at hl 1 rfl) ?_
        obtain ⟨v7, hv7, hf⟩ := obw hf
        refine g_ald (a := 4) (len := 200) S hK hP (by decide) (mC_arr (by decide) rfl) hv7 dX4_findMarkings_49 ?_
        refine lv_iload_n hx hb dX4_findMarkings_50 rfl (lv_at hl 2 rfl) ?_
        obtain ⟨v8, hq51, hf⟩ := obw hf
        refine g_calli (va_runV (As := [.int v7, .int x2_27]) (rest := []) S (met_X4_behind l D cI cII κ hκ σ_27 v7 x2_27 v8 hq51) (cwV 2 S.2.2.2.2 gX4_findMarkings_X4_behind rfl rfl rfl (by decide +kernel) ⟨Nat.le_of_ble_eq_true rfl, Nat.le_of_ble_eq_true rfl⟩) (g_preV (N := 12) (T := TX4) hK hP (Nat.le_refl _) (by decide) rfl rfl) rfl rfl hl.1 rfl (lv_room (Nat.le_of_ble_eq_true rfl)) dX4_findMarkings_51 ⟨Nat.le_of_ble_eq_true rfl, Nat.le_of_ble_eq_true rfl⟩) (Nat.le_refl _) hκ hA hP hS (fun j h1 h2 => absurd h2 (Nat.not_lt.mpr h1)) (fun H locs hP hS => ?_)
        obtain ⟨v9, ev9, hf⟩ := letb_w hf
        refine lv_nmi ev9 ?_
        refine lv_istore_n (lv' := [(3, .int v9), (0, .ref (κ 0)), (1, .int x1_17), (2, .int x2_27)]) hx hb dX4_findMarkings_54 rfl hl (by decide) rfl (fun ls hl => ?_)
        refine lv_iload_n hx hb dX4_findMarkings_55 rfl (lv_at hl 0 rfl) ?_
        refine lv_iconst (v := -1) hx hb dX4_findMarkings_56 (by decide) ?_
        obtain ⟨K92, hK92, hf⟩ := letb_w hf
        have J92 : ∀ (τ_92 : SX), K92 τ_92 = some σ' → ∀ (H : Heap) (locs : List Loc) (ls : Array Slot), va_P D vwCl (gw 5 κ (mC cI cII κ τ_92)) H → va_S (gA 5 κ) s.heap H locs → lv_has ls 4 [(0, .ref (κ 0)), (1, .int x1_17), (2, .int x2_27)] → W p l e ({ frames := 4, cells := 0, slots := 0, locals := 97 } : Room) s m args below meth c H locs 0 0 (MQ below (QV D cI cII 5 κ (mC cI cII κ σ')) args s 0 0 (gA 5 κ)) (F0 m 92 ls []) := by
          intro τ_92 hf H locs ls hP hS hl
          rw [hK92] at hf
          obtain ⟨v10, ev10, hf⟩ := letb_w hf
          refine lv_iinc (v := v10) (lv' := [(2, .int v10), (0, .ref (κ 0)), (1, .int x1_17)]) hx hb dX4_findMarkings_92 hl (k := 2) rfl (by rw [ev10]; rfl) (by decide) rfl (fun ls hl => ?_)
          refine lv_goto (tgt := 27) hx hb dX4_findMarkings_95 (by decide) ?_
          exact ih27 _ _ hf _ _ _ hP hS (lv_sub hl [1, 2, 0] rfl)
        refine lv_icmp_eq (tgt := 92) hx hb dX4_findMarkings_57 (by decide) (fun c57 => ?_) (fun c57 => ?_)
        · have hf := iteT c57 hf
          exact J92 _ hf _ _ _ hP hS (lv_sub hl [1, 2, 3] rfl)
        · have hf := iteF c57 hf
          refine lv_aload_n hx hb dX4_findMarkings_60 rfl (lv_at hl 1 rfl) ?_
          refine lv_iload_n hx hb dX4_findMarkings_61 rfl (lv_at hl 0 rfl) ?_
          obtain ⟨v11, hq62, hf⟩ := obw hf
          refine g_calli (va_runV (As := [.int v9]) (rest := []) S (met_X4_numberOf l D cI cII κ hκ σ_27 v9 v11 hq62) (cwV 1 S.2.2.2.2 gX4_findMarkings_X4_numberOf rfl rfl rfl (by decide +kernel) ⟨Nat.le_of_ble_eq_true rfl, Nat.le_of_ble_eq_true rfl⟩) (g_preV (N := 12) (T := TX4) hK hP (Nat.le_refl _) (by decide) rfl rfl) rfl rfl hl.1 rfl (lv_room (Nat.le_of_ble_eq_true rfl)) dX4_findMarkings_62 ⟨Nat.le_of_ble_eq_true rfl, Nat.le_of_ble_eq_true rfl⟩) (Nat.le_refl _) hκ hA hP hS (fun j h1 h2 => absurd h2 (Nat.not_lt.mpr h1)) (fun H locs hP hS => ?_)
          refine lv_iconst (v := -1) hx hb dX4_findMarkings_65 (by decide) ?_
          refine lv_icmp_eq (tgt := 72) hx hb dX4_findMarkings_66 (by decide) (fun c66 => ?_) (fun c66 => ?_)
          · have hf := iteT c66 hf
            refine lv_aload_n hx hb dX4_findMarkings_72 rfl (lv_at hl 1 rfl) ?_
            refine g_get (q := 0) (ci := 4) (k := 11) (ref := RX4) (C := RX4) (T := TX4) (N := 12) (index := 23) (v := .ref (κ 4)) S hK hP hiX4 (by decide) rfl rfl (by decide) rfl (by decide +kernel) rfl dX4_findMarkings_73 ?_
            refine lv_aload_n hx hb dX4_findMarkings_76 rfl (lv_at hl 1 rfl) ?_
            refine g_get (q := 0) (ci := 4) (k := 10) (ref := RX4) (C := RX4) (T := TX4) (N := 12) (index := 123) (v := .int ((σ_27.1 7))) S hK hP hiX4 (by decide) rfl rfl (by decide) rfl (by decide +kernel) rfl dX4_findMarkings_77 ?_
            refine lv_iload_n hx hb dX4_findMarkings_80 rfl (lv_at hl 0 rfl) ?_
            obtain ⟨σ12, hσ12, hf⟩ := obw hf
            refine g_ast (a := 4) (len := 200) (f' := (mC cI cII κ σ12)) S hK hP hκ hA hS (by decide) (mC_arr (by decide) rfl) hσ12 (fun j _ => mC_as hσ12 (by decide) rfl j) dX4_findMarkings_81 (fun H locs hP hS => ?_)
            refine lv_aload_n hx hb dX4_findMarkings_82 rfl (lv_at hl 1 rfl) ?_
            refine lv_dup hx hb dX4_findMarkings_83 rfl ?_
            refine g_get (q := 0) (ci := 4) (k := 10) (ref := RX4) (C := RX4) (T := TX4) (N := 12) (index := 123) (v := .int ((σ12.1 7))) S hK hP hiX4 (by decide) rfl rfl (by decide) rfl (by decide +kernel) rfl dX4_findMarkings_84 ?_
            refine lv_iconst (v := 1) hx hb dX4_findMarkings_87 (by decide) ?_
            refine lv_iadd hx hb dX4_findMarkings_88 ?_
            obtain ⟨σ13, eσ13, hf⟩ := letb_w hf
            refine g_put (q := 0) (ci := 4) (k := 10) (ref := RX4) (C := RX4) (T := TX4) (N := 12) (index := 123) (ty := .int) (f' := (mC cI cII κ σ13)) S hK hP hκ hA hS hiX4 tyX4_ok nmX4 (by decide) rfl rfl (by decide) rfl (by decide +kernel) rfl (by decide +kernel) rfl rfl (Nat.le_of_ble_eq_true rfl) (fun j _ => by rw [eσ13]; exact mC_p7 j) dX4_findMarkings_89 (fun H locs hP hS => ?_)
            exact J92 _ hf _ _ _ hP hS (lv_sub hl [1, 2, 3] rfl)
          · have hf := iteF c66 hf
            refine lv_goto (tgt := 92) hx hb dX4_findMarkings_69 (by decide) ?_
            exact J92 _ hf _ _ _ hP hS (lv_sub hl [1, 2, 3] rfl)

set_option maxRecDepth 100000 in
set_option maxHeartbeats 4000000 in
theorem met_X4_makeNet (l : Launch) (D : va_G) (cI cII : ClassId) (κ : Nat → Nat) (hκ : Inj 5 κ) (σ : SX)  (r : Int32) (σ' : SX) (hf : fn_X4_makeNet σ  = some (r, σ')) : Met l yX4_makeNet wsX4_makeNet ({ frames := 5, cells := 0, slots := 0, locals := 120 } : Room) (va_Pc [.ref (κ 0)] (mP D cI cII κ σ)) (QI D cI cII 5 κ (mC cI cII κ σ') r) 0 0 (gA 5 κ) := by
  refine g_enter (cc := cX4_makeNet) (maxL := 2) (ret := (some .int)) (by decide) rfl (Nat.le_of_ble_eq_true rfl) ?_
  intro p e s m args below meth c ls S hr hlk _ hB hl
  have S : CallFix p m c cX4_makeNet 2 s args wsX4_makeNet RX4 := S
  obtain ⟨hP, hK⟩ := hB
  have hl : lv_has ls 2 [(0, .ref (κ 0))] := hl
  have hS : va_S (gA 5 κ) s.heap s.heap [] := va_S.rf
  have hA : ∀ k, k < 5 → gA 5 κ (κ k) := gA_in
  obtain ⟨hx, hb, hml, hown, hts⟩ := id S
  have hiX4 : ∀ w ∈ u_ws RX4 TX4 12, w ∈ wsX4_makeNet := by decide +kernel
  unfold fn_X4_makeNet at hf
  refine lv_aload_n hx hb dX4_makeNet_0 rfl (lv_at hl 0 rfl) ?_
  refine lv_iconst (v := 0) hx hb dX4_makeNet_1 (by decide) ?_
  obtain ⟨σ1, eσ1, hf⟩ := letb_w hf
  refine g_put (q := 0) (ci := 4) (k := 0) (ref := RX4) (C := RX4) (T := TX4) (N := 12) (index := 26) (ty := .int) (f' := (mC cI cII κ σ1)) S hK hP hκ hA hS hiX4 tyX4_ok nmX4 (by decide) rfl rfl (by decide) rfl (by decide +kernel) rfl (by decide +kernel) rfl rfl (Nat.le_of_ble_eq_true rfl) (fun j _ => by rw [eσ1]; exact mC_p0 j) dX4_makeNet_2 (fun H locs hP hS => ?_)
  refine lv_aload_n hx hb dX4_makeNet_5 rfl (lv_at hl 0 rfl) ?_
  refine g_get (q := 0) (ci := 4) (k := 6) (ref := RX4) (C := RX4) (T := TX4) (N := 12) (index := 33) (v := .int ((σ1.1 4))) S hK hP hiX4 (by decide) rfl rfl (by decide) rfl (by decide +kernel) rfl dX4_makeNet_6 ?_
  obtain ⟨K91, hK91, hf⟩ := letb_w hf
  have J91 : ∀ (τ_91 : SX), K91 τ_91 = some (r, σ') → ∀ (H : Heap) (locs : List Loc) (ls : Array Slot), va_P D vwCl (gw 5 κ (mC cI cII κ τ_91)) H → va_S (gA 5 κ) s.heap H locs → lv_has ls 2 [(0, .ref (κ 0))] → W p l e ({ frames := 5, cells := 0, slots := 0, locals := 120 } : Room) s m args below meth c H locs 0 0 (MQ below (QI D cI cII 5 κ (mC cI cII κ σ') r) args s 0 0 (gA 5 κ)) (F0 m 91 ls []) := by
    intro τ_91 hf H locs ls hP hS hl
    rw [hK91] at hf
    refine lv_aload_n hx hb dX4_makeNet_91 rfl (lv_at hl 0 rfl) ?_
    refine lv_aload_n hx hb dX4_makeNet_92 rfl (lv_at hl 0 rfl) ?_
    obtain ⟨v2, hq93, hf⟩ := obw hf
    refine g_calli (va_runV (As := []) (rest := [.ref (κ 0)]) S (met_X4_firstMarking l D cI cII κ hκ τ_91 v2 hq93) (cwV 0 S.2.2.2.2 gX4_makeNet_X4_firstMarking rfl rfl rfl (by decide +kernel) ⟨Nat.le_of_ble_eq_true rfl, Nat.le_of_ble_eq_true rfl⟩) (g_preV (N := 12) (T := TX4) hK hP (Nat.le_refl _) (by decide) rfl rfl) rfl rfl hl.1 rfl (lv_room (Nat.le_of_ble_eq_true rfl)) dX4_makeNet_93 ⟨Nat.le_of_ble_eq_true rfl, Nat.le_of_ble_eq_true rfl⟩) (Nat.le_refl _) hκ hA hP hS (fun j h1 h2 => absurd h2 (Nat.not_lt.mpr h1)) (fun H locs hP hS => ?_)
    obtain ⟨σ3, eσ3, hf⟩ := letb_w hf
    refine g_put (q := 0) (ci := 4) (k := 9) (ref := RX4) (C := RX4) (T := TX4) (N := 12) (index := 111) (ty := .int) (f' := (mC cI cII κ σ3)) S hK hP hκ hA hS hiX4 tyX4_ok nmX4 (by decide) rfl rfl (by decide) rfl (by decide +kernel) rfl (by decide +kernel) rfl rfl (Nat.le_of_ble_eq_true rfl) (fun j _ => by rw [eσ3]; exact mC_p6 j) dX4_makeNet_96 (fun H locs hP hS => ?_)
    refine lv_aload_n hx hb dX4_makeNet_99 rfl (lv_at hl 0 rfl) ?_
    refine g_get (q := 0) (ci := 4) (k := 7) (ref := RX4) (C := RX4) (T := TX4) (N := 12) (index := 102) (v := .int ((σ3.1 5))) S hK hP hiX4 (by decide) rfl rfl (by decide) rfl (by decide +kernel) rfl dX4_makeNet_100 ?_
    obtain ⟨h8, h9⟩ := Prod.mk.inj (Option.some.inj hf)
    subst h9
    exact g_iret S hr hlk hK hP hS h8 dX4_makeNet_103
  refine lv_if_ne (tgt := 91) hx hb dX4_makeNet_9 (by decide) (fun c9 => ?_) (fun c9 => ?_)
  · have hf := iteT c9 hf
    exact J91 _ hf _ _ _ hP hS (lv_sub hl [0] rfl)
  · have hf := iteN c9 hf
    refine lv_aload_n hx hb dX4_makeNet_12 rfl (lv_at hl 0 rfl) ?_
    obtain ⟨σ4, hq13, hf⟩ := obw hf
    refine g_callv (va_runV (As := []) (rest := []) S (met_X4_know l D cI cII κ hκ σ1 σ4 hq13) (cwV 0 S.2.2.2.2 gX4_makeNet_X4_know rfl rfl rfl (by decide +kernel) ⟨Nat.le_of_ble_eq_true rfl, Nat.le_of_ble_eq_true rfl⟩) (g_preV (N := 12) (T := TX4) hK hP (Nat.le_refl _) (by decide) rfl rfl) rfl rfl hl.1 rfl (lv_room (Nat.le_of_ble_eq_true rfl)) dX4_makeNet_13 ⟨Nat.le_of_ble_eq_true rfl, Nat.le_of_ble_eq_true rfl⟩) (Nat.le_refl _) hκ hA hP hS (fun j h1 h2 => absurd h2 (Nat.not_lt.mpr h1)) (fun H locs hP hS => ?_)
    refine lv_aload_n hx hb dX4_makeNet_16 rfl (lv_at hl 0 rfl) ?_
    refine lv_iconst (v := 0) hx hb dX4_makeNet_17 (by decide) ?_
    obtain ⟨σ5, eσ5, hf⟩ := letb_w hf
    refine g_put (q := 0) (ci := 4) (k := 7) (ref := RX4) (C := RX4) (T := TX4) (N := 12) (index := 102) (ty := .int) (f' := (mC cI cII κ σ5)) S hK hP hκ hA hS hiX4 tyX4_ok nmX4 (by decide) rfl rfl (by decide) rfl (by decide +kernel) rfl (by decide +kernel) rfl rfl (Nat.le_of_ble_eq_true rfl) (fun j _ => by rw [eσ5]; exact mC_p5 j) dX4_makeNet_18 (fun H locs hP hS => ?_)
    refine lv_iconst (v := 0) hx hb dX4_makeNet_21 (by decide) ?_
    obtain ⟨v6, ev6, hf⟩ := letb_w hf
    refine lv_nmi ev6 ?_
    refine lv_istore_n (lv' := [(1, .int v6), (0, .ref (κ 0))]) hx hb dX4_makeNet_22 rfl hl (by decide) rfl (fun ls hl => ?_)
    refine loopF_w (P := fun (g : Int32 → SX → Option (Int32 × SX)) => ∀ (x1_23 : Int32) (σ_23 : SX), g x1_23 σ_23 = some (r, σ') → ∀ (H : Heap) (locs : List Loc) (ls : Array Slot), va_P D vwCl (gw 5 κ (mC cI cII κ σ_23)) H → va_S (gA 5 κ) s.heap H locs → lv_has ls 2 [(0, .ref (κ 0)), (1, .int x1_23)] → W p l e ({ frames := 5, cells := 0, slots := 0, locals := 120 } : Room) s m args below meth c H locs 0 0 (MQ below (QI D cI cII 5 κ (mC cI cII κ σ') r) args s 0 0 (gA 5 κ)) (F0 m 23 ls [])) (fun _ _ h => by simp at h) ?_ FU _ _ hf _ _ _ hP hS (lv_sub hl [1, 0] rfl)
    intro rec23 ih23 x1_23 σ_23 hf H locs ls hP hS hl
    unfold bd_X4_makeNet_23 at hf
    refine lv_iload_n hx hb dX4_makeNet_23 rfl (lv_at hl 1 rfl) ?_
    refine lv_aload_n hx hb dX4_makeNet_24 rfl (lv_at hl 0 rfl) ?_
    refine g_get (q := 0) (ci := 4) (k := 4) (ref := RX4) (C := RX4) (T := TX4) (N := 12) (index := 67) (v := .int ((σ_23.1 3))) S hK hP hiX4 (by decide) rfl rfl (by decide) rfl (by decide +kernel) rfl dX4_makeNet_25 ?_
    obtain ⟨K82, hK82, hf⟩ := letb_w hf
    have J82 : ∀ (_u : Unit), K82 _u = some (r, σ') → ∀ (H : Heap) (locs : List Loc) (ls : Array Slot), va_P D vwCl (gw 5 κ (mC cI cII κ σ_23)) H → va_S (gA 5 κ) s.heap H locs → lv_has ls 2 [(0, .ref (κ 0))] → W p l e ({ frames := 5, cells := 0, slots := 0, locals := 120 } : Room) s m args below meth c H locs 0 0 (MQ below (QI D cI cII 5 κ (mC cI cII κ σ') r) args s 0 0 (gA 5 κ)) (F0 m 82 ls []) := by
      intro _u hf H locs ls hP hS hl
      rw [hK82] at hf
      refine lv_aload_n hx hb dX4_makeNet_82 rfl (lv_at hl 0 rfl) ?_
      refine lv_iconst (v := 1) hx hb dX4_makeNet_83 (by decide) ?_
      obtain ⟨σ7, eσ7, hf⟩ := letb_w hf
      refine g_put (q := 0) (ci := 4) (k := 6) (ref := RX4) (C := RX4) (T := TX4) (N := 12) (index := 33) (ty := .boolean) (f' := (mC cI cII κ σ7)) S hK hP hκ hA hS hiX4 tyX4_ok nmX4 (by decide) rfl rfl (by decide) rfl (by decide +kernel) rfl (by decide +kernel) rfl rfl (Nat.le_of_ble_eq_true rfl) (fun j _ => by rw [eσ7]; exact mC_p4 j) dX4_makeNet_84 (fun H locs hP hS => ?_)
      refine lv_aload_n hx hb dX4_makeNet_87 rfl (lv_at hl 0 rfl) ?_
      obtain ⟨σ8, hq88, hf⟩ := obw hf
      refine g_callv (va_runV (As := []) (rest := []) S (met_X4_findMarkings l D cI cII κ hκ σ7 σ8 hq88) (cwV 0 S.2.2.2.2 gX4_makeNet_X4_findMarkings rfl rfl rfl (by decide +kernel) ⟨Nat.le_of_ble_eq_true rfl, Nat.le_of_ble_eq_true rfl⟩) (g_preV (N := 12) (T := TX4) hK hP (Nat.le_refl _) (by decide) rfl rfl) rfl rfl hl.1 rfl (lv_room (Nat.le_of_ble_eq_true rfl)) dX4_makeNet_88 ⟨Nat.le_of_ble_eq_true rfl, Nat.le_of_ble_eq_true rfl⟩) (Nat.le_refl _) hκ hA hP hS (fun j h1 h2 => absurd h2 (Nat.not_lt.mpr h1)) (fun H locs hP hS => ?_)
      exact J91 _ hf _ _ _ hP hS (lv_sub hl [0] rfl)
    refine lv_icmp_ge (tgt := 82) hx hb dX4_makeNet_28 (by decide) (fun c28 => ?_) (fun c28 => ?_)
    · have hf := iteT c28 hf
      exact J82 _ hf _ _ _ hP hS (lv_sub hl [0] rfl)
    · have hf := iteF c28 hf
      refine lv_aload_n hx hb dX4_makeNet_31 rfl (lv_at hl 0 rfl) ?_
      refine g_get (q := 0) (ci := 4) (k := 7) (ref := RX4) (C := RX4) (T := TX4) (N := 12) (index := 102) (v := .int ((σ_23.1 5))) S hK hP hiX4 (by decide) rfl rfl (by decide) rfl (by decide +kernel) rfl dX4_makeNet_32 ?_
      refine lv_bipush (v := 30) hx hb dX4_makeNet_35 (by decide) ?_
      refine lv_icmp_ge (tgt := 82) hx hb dX4_makeNet_37 (by decide) (fun c37 => ?_) (fun c37 => ?_)
      · have hf := iteT c37 hf
        exact J82 _ hf _ _ _ hP hS (lv_sub hl [0] rfl)
      · have hf := iteF c37 hf
        refine lv_aload_n hx hb dX4_makeNet_40 rfl (lv_at hl 0 rfl) ?_
        refine lv_iload_n hx hb dX4_makeNet_41 rfl (lv_at hl 1 rfl) ?_
        obtain ⟨v9, hq42, hf⟩ := obw hf
        refine g_calli (va_runV (As := [.int x1_23]) (rest := []) S (met_X4_isSmallest l D cI cII κ hκ σ_23 x1_23 v9 hq42) (cwV 1 S.2.2.2.2 gX4_makeNet_X4_isSmallest rfl rfl rfl (by decide +kernel) ⟨Nat.le_of_ble_eq_true rfl, Nat.le_of_ble_eq_true rfl⟩) (g_preV (N := 12) (T := TX4) hK hP (Nat.le_refl _) (by decide) rfl rfl) rfl rfl hl.1 rfl (lv_room (Nat.le_of_ble_eq_true rfl)) dX4_makeNet_42 ⟨Nat.le_of_ble_eq_true rfl, Nat.le_of_ble_eq_true rfl⟩) (Nat.le_refl _) hκ hA hP hS (fun j h1 h2 => absurd h2 (Nat.not_lt.mpr h1)) (fun H locs hP hS => ?_)
        obtain ⟨K76, hK76, hf⟩ := letb_w hf
        have J76 : ∀ (τ_76 : SX), K76 τ_76 = some (r, σ') → ∀ (H : Heap) (locs : List Loc) (ls : Array Slot), va_P D vwCl (gw 5 κ (mC cI cII κ τ_76)) H → va_S (gA 5 κ) s.heap H locs → lv_has ls 2 [(0, .ref (κ 0)), (1, .int x1_23)] → W p l e ({ frames := 5, cells := 0, slots := 0, locals := 120 } : Room) s m args below meth c H locs 0 0 (MQ below (QI D cI cII 5 κ (mC cI cII κ σ') r) args s 0 0 (gA 5 κ)) (F0 m 76 ls []) := by
          intro τ_76 hf H locs ls hP hS hl
          rw [hK76] at hf
          obtain ⟨v10, ev10, hf⟩ := letb_w hf
          refine lv_iinc (v := v10) (lv' := [(1, .int v10), (0, .ref (κ 0))]) hx hb dX4_makeNet_76 hl (k := 1) rfl (by rw [ev10]; rfl) (by decide) rfl (fun ls hl => ?_)
          refine lv_goto (tgt := 23) hx hb dX4_makeNet_79 (by decide) ?_
          exact ih23 _ _ hf _ _ _ hP hS (lv_sub hl [1, 0] rfl)
        refine lv_if_ne (tgt := 51) hx hb dX4_makeNet_45 (by decide) (fun c45 => ?_) (fun c45 => ?_)
        · have hf := iteT c45 hf
          refine lv_aload_n hx hb dX4_makeNet_51 rfl (lv_at hl 0 rfl) ?_
          refine g_get (q := 0) (ci := 4) (k := 8) (ref := RX4) (C := RX4) (T := TX4) (N := 12) (index := 20) (v := .ref (κ 3)) S hK hP hiX4 (by decide) rfl rfl (by decide) rfl (by decide +kernel) rfl dX4_makeNet_52 ?_
          refine lv_aload_n hx hb dX4_makeNet_55 rfl (lv_at hl 0 rfl) ?_
          refine g_get (q := 0) (ci := 4) (k := 7) (ref := RX4) (C := RX4) (T := TX4) (N := 12) (index := 102) (v := .int ((σ_23.1 5))) S hK hP hiX4 (by decide) rfl rfl (by decide) rfl (by decide +kernel) rfl dX4_makeNet_56 ?_
          refine lv_aload_n hx hb dX4_makeNet_59 rfl (lv_at hl 0 rfl) ?_
          refine g_get (q := 0) (ci := 4) (k := 5) (ref := RX4) (C := RX4) (T := TX4) (N := 12) (index := 17) (v := .ref (κ 2)) S hK hP hiX4 (by decide) rfl rfl (by decide) rfl (by decide +kernel) rfl dX4_makeNet_60 ?_
          refine lv_iload_n hx hb dX4_makeNet_63 rfl (lv_at hl 1 rfl) ?_
          obtain ⟨v11, hv11, hf⟩ := obw hf
          refine g_ald (a := 2) (len := 4096) S hK hP (by decide) (mC_arr (by decide) rfl) hv11 dX4_makeNet_64 ?_
          obtain ⟨σ12, hσ12, hf⟩ := obw hf
          refine g_ast (a := 3) (len := 30) (f' := (mC cI cII κ σ12)) S hK hP hκ hA hS (by decide) (mC_arr (by decide) rfl) hσ12 (fun j _ => mC_as hσ12 (by decide) rfl j) dX4_makeNet_65 (fun H locs hP hS => ?_)
          refine lv_aload_n hx hb dX4_makeNet_66 rfl (lv_at hl 0 rfl) ?_
          refine lv_dup hx hb dX4_makeNet_67 rfl ?_
          refine g_get (q := 0) (ci := 4) (k := 7) (ref := RX4) (C := RX4) (T := TX4) (N := 12) (index := 102) (v := .int ((σ12.1 5))) S hK hP hiX4 (by decide) rfl rfl (by decide) rfl (by decide +kernel) rfl dX4_makeNet_68 ?_
          refine lv_iconst (v := 1) hx hb dX4_makeNet_71 (by decide) ?_
          refine lv_iadd hx hb dX4_makeNet_72 ?_
          obtain ⟨σ13, eσ13, hf⟩ := letb_w hf
          refine g_put (q := 0) (ci := 4) (k := 7) (ref := RX4) (C := RX4) (T := TX4) (N := 12) (index := 102) (ty := .int) (f' := (mC cI cII κ σ13)) S hK hP hκ hA hS hiX4 tyX4_ok nmX4 (by decide) rfl rfl (by decide) rfl (by decide +kernel) rfl (by decide +kernel) rfl rfl (Nat.le_of_ble_eq_true rfl) (fun j _ => by rw [eσ13]; exact mC_p5 j) dX4_makeNet_73 (fun H locs hP hS => ?_)
          exact J76 _ hf _ _ _ hP hS (lv_sub hl [0, 1] rfl)
        · have hf := iteN c45 hf
          refine lv_goto (tgt := 76) hx hb dX4_makeNet_48 (by decide) ?_
          exact J76 _ hf _ _ _ hP hS (lv_sub hl [0, 1] rfl)

set_option maxRecDepth 100000 in
set_option maxHeartbeats 4000000 in
theorem met_X4_markingCount (l : Launch) (D : va_G) (cI cII : ClassId) (κ : Nat → Nat) (hκ : Inj 5 κ) (σ : SX)  (r : Int32) (σ' : SX) (hf : fn_X4_markingCount σ  = some (r, σ')) : Met l yX4_markingCount wsX4_markingCount ({ frames := 1, cells := 0, slots := 0, locals := 22 } : Room) (va_Pc [.ref (κ 0)] (mP D cI cII κ σ)) (QI D cI cII 5 κ (mC cI cII κ σ') r) 0 0 (gA 5 κ) := by
  refine g_enter (cc := cX4_markingCount) (maxL := 1) (ret := (some .int)) (by decide) rfl (Nat.le_of_ble_eq_true rfl) ?_
  intro p e s m args below meth c ls S hr hlk _ hB hl
  have S : CallFix p m c cX4_markingCount 1 s args wsX4_markingCount RX4 := S
  obtain ⟨hP, hK⟩ := hB
  have hl : lv_has ls 1 [(0, .ref (κ 0))] := hl
  have hS : va_S (gA 5 κ) s.heap s.heap [] := va_S.rf
  have hA : ∀ k, k < 5 → gA 5 κ (κ k) := gA_in
  obtain ⟨hx, hb, hml, hown, hts⟩ := id S
  have hiX4 : ∀ w ∈ u_ws RX4 TX4 12, w ∈ wsX4_markingCount := by decide +kernel
  unfold fn_X4_markingCount at hf
  refine lv_aload_n hx hb dX4_markingCount_0 rfl (lv_at hl 0 rfl) ?_
  refine lv_iconst (v := 0) hx hb dX4_markingCount_1 (by decide) ?_
  refine lv_iconst (v := 1) hx hb dX4_markingCount_2 (by decide) ?_
  obtain ⟨v2, σ1, hq3, hf⟩ := bind2_w hf
  refine g_calli (va_runV (As := [.int 0, .int 1]) (rest := []) S (met_X4_asks l D cI cII κ hκ σ 0 1 v2 σ1 hq3) (cwV 2 S.2.2.2.2 gX4_markingCount_X4_asks rfl rfl rfl (by decide +kernel) ⟨Nat.le_of_ble_eq_true rfl, Nat.le_of_ble_eq_true rfl⟩) (g_preV (N := 12) (T := TX4) hK hP (Nat.le_refl _) (by decide) rfl rfl) rfl rfl hl.1 rfl (lv_room (Nat.le_of_ble_eq_true rfl)) dX4_markingCount_3 ⟨Nat.le_of_ble_eq_true rfl, Nat.le_of_ble_eq_true rfl⟩) (Nat.le_refl _) hκ hA hP hS (fun j h1 h2 => absurd h2 (Nat.not_lt.mpr h1)) (fun H locs hP hS => ?_)
  refine lv_if_eq (tgt := 16) hx hb dX4_markingCount_6 (by decide) (fun c6 => ?_) (fun c6 => ?_)
  · have hf := iteT c6 hf
    refine lv_iconst (v := 0) hx hb dX4_markingCount_16 (by decide) ?_
    obtain ⟨h8, h9⟩ := Prod.mk.inj (Option.some.inj hf)
    subst h9
    exact g_iret S hr hlk hK hP hS h8 dX4_markingCount_17
  · have hf := iteF c6 hf
    refine lv_aload_n hx hb dX4_markingCount_9 rfl (lv_at hl 0 rfl) ?_
    refine g_get (q := 0) (ci := 4) (k := 10) (ref := RX4) (C := RX4) (T := TX4) (N := 12) (index := 123) (v := .int ((σ1.1 7))) S hK hP hiX4 (by decide) rfl rfl (by decide) rfl (by decide +kernel) rfl dX4_markingCount_10 ?_
    refine lv_goto (tgt := 17) hx hb dX4_markingCount_13 (by decide) ?_
    obtain ⟨h8, h9⟩ := Prod.mk.inj (Option.some.inj hf)
    subst h9
    exact g_iret S hr hlk hK hP hS h8 dX4_markingCount_17

set_option maxRecDepth 100000 in
set_option maxHeartbeats 4000000 in
theorem met_X4_markingAt (l : Launch) (D : va_G) (cI cII : ClassId) (κ : Nat → Nat) (hκ : Inj 5 κ) (σ : SX) (p1 : Int32) (r : Int32) (σ' : SX) (hf : fn_X4_markingAt σ p1 = some (r, σ')) : Met l yX4_markingAt wsX4_markingAt ({ frames := 1, cells := 0, slots := 0, locals := 22 } : Room) (va_Pc [.ref (κ 0), .int p1] (mP D cI cII κ σ)) (QI D cI cII 5 κ (mC cI cII κ σ') r) 0 0 (gA 5 κ) := by
  refine g_enter (cc := cX4_markingAt) (maxL := 2) (ret := (some .int)) (by decide) rfl (Nat.le_of_ble_eq_true rfl) ?_
  intro p e s m args below meth c ls S hr hlk _ hB hl
  have S : CallFix p m c cX4_markingAt 2 s args wsX4_markingAt RX4 := S
  obtain ⟨hP, hK⟩ := hB
  have hl : lv_has ls 2 [(0, .ref (κ 0)), (1, .int p1)] := hl
  have hS : va_S (gA 5 κ) s.heap s.heap [] := va_S.rf
  have hA : ∀ k, k < 5 → gA 5 κ (κ k) := gA_in
  obtain ⟨hx, hb, hml, hown, hts⟩ := id S
  have hiX4 : ∀ w ∈ u_ws RX4 TX4 12, w ∈ wsX4_markingAt := by decide +kernel
  unfold fn_X4_markingAt at hf
  refine lv_aload_n hx hb dX4_markingAt_0 rfl (lv_at hl 0 rfl) ?_
  refine lv_iload_n hx hb dX4_markingAt_1 rfl (lv_at hl 1 rfl) ?_
  refine lv_aload_n hx hb dX4_markingAt_2 rfl (lv_at hl 0 rfl) ?_
  refine g_get (q := 0) (ci := 4) (k := 10) (ref := RX4) (C := RX4) (T := TX4) (N := 12) (index := 123) (v := .int ((σ.1 7))) S hK hP hiX4 (by decide) rfl rfl (by decide) rfl (by decide +kernel) rfl dX4_markingAt_3 ?_
  obtain ⟨v2, σ1, hq6, hf⟩ := bind2_w hf
  refine g_calli (va_runV (As := [.int p1, .int ((σ.1 7))]) (rest := []) S (met_X4_asks l D cI cII κ hκ σ p1 ((σ.1 7)) v2 σ1 hq6) (cwV 2 S.2.2.2.2 gX4_markingAt_X4_asks rfl rfl rfl (by decide +kernel) ⟨Nat.le_of_ble_eq_true rfl, Nat.le_of_ble_eq_true rfl⟩) (g_preV (N := 12) (T := TX4) hK hP (Nat.le_refl _) (by decide) rfl rfl) rfl rfl hl.1 rfl (lv_room (Nat.le_of_ble_eq_true rfl)) dX4_markingAt_6 ⟨Nat.le_of_ble_eq_true rfl, Nat.le_of_ble_eq_true rfl⟩) (Nat.le_refl _) hκ hA hP hS (fun j h1 h2 => absurd h2 (Nat.not_lt.mpr h1)) (fun H locs hP hS => ?_)
  refine lv_if_eq (tgt := 21) hx hb dX4_markingAt_9 (by decide) (fun c9 => ?_) (fun c9 => ?_)
  · have hf := iteT c9 hf
    refine lv_iconst (v := 0) hx hb dX4_markingAt_21 (by decide) ?_
    obtain ⟨h8, h9⟩ := Prod.mk.inj (Option.some.inj hf)
    subst h9
    exact g_iret S hr hlk hK hP hS h8 dX4_markingAt_22
  · have hf := iteF c9 hf
    refine lv_aload_n hx hb dX4_markingAt_12 rfl (lv_at hl 0 rfl) ?_
    refine g_get (q := 0) (ci := 4) (k := 11) (ref := RX4) (C := RX4) (T := TX4) (N := 12) (index := 23) (v := .ref (κ 4)) S hK hP hiX4 (by decide) rfl rfl (by decide) rfl (by decide +kernel) rfl dX4_markingAt_13 ?_
    refine lv_iload_n hx hb dX4_markingAt_16 rfl (lv_at hl 1 rfl) ?_
    obtain ⟨v3, hv3, hf⟩ := obw hf
    refine g_ald (a := 4) (len := 200) S hK hP (by decide) (mC_arr (by decide) rfl) hv3 dX4_markingAt_17 ?_
    refine lv_goto (tgt := 22) hx hb dX4_markingAt_18 (by decide) ?_
    obtain ⟨h8, h9⟩ := Prod.mk.inj (Option.some.inj hf)
    subst h9
    exact g_iret S hr hlk hK hP hS h8 dX4_markingAt_22

set_option maxRecDepth 100000 in
set_option maxHeartbeats 4000000 in
theorem met_X4_digest (l : Launch) (D : va_G) (cI cII : ClassId) (κ : Nat → Nat) (hκ : Inj 5 κ) (σ : SX)  (r : Int64) (σ' : SX) (hf : fn_X4_digest σ  = some (r, σ')) : Met l yX4_digest wsX4_digest ({ frames := 5, cells := 0, slots := 0, locals := 113 } : Room) (va_Pc [.ref (κ 0)] (mP D cI cII κ σ)) (QL D cI cII 5 κ (mC cI cII κ σ') r) 0 0 (gA 5 κ) := by
  refine g_enter (cc := cX4_digest) (maxL := 5) (ret := (some .long)) (by decide) rfl (Nat.le_of_ble_eq_true rfl) ?_
  intro p e s m args below meth c ls S hr hlk _ hB hl
  have S : CallFix p m c cX4_digest 5 s args wsX4_digest RX4 := S
  obtain ⟨hP, hK⟩ := hB
  have hl : lv_has ls 5 [(0, .ref (κ 0))] := hl
  have hS : va_S (gA 5 κ) s.heap s.heap [] := va_S.rf
  have hA : ∀ k, k < 5 → gA 5 κ (κ k) := gA_in
  obtain ⟨hx, hb, hml, hown, hts⟩ := id S
  have hiX4 : ∀ w ∈ u_ws RX4 TX4 12, w ∈ wsX4_digest := by decide +kernel
  unfold fn_X4_digest at hf
  refine lv_aload_n hx hb dX4_digest_0 rfl (lv_at hl 0 rfl) ?_
  refine lv_iconst (v := 0) hx hb dX4_digest_1 (by decide) ?_
  obtain ⟨σ1, eσ1, hf⟩ := letb_w hf
  refine g_put (q := 0) (ci := 4) (k := 0) (ref := RX4) (C := RX4) (T := TX4) (N := 12) (index := 26) (ty := .int) (f' := (mC cI cII κ σ1)) S hK hP hκ hA hS hiX4 tyX4_ok nmX4 (by decide) rfl rfl (by decide) rfl (by decide +kernel) rfl (by decide +kernel) rfl rfl (Nat.le_of_ble_eq_true rfl) (fun j _ => by rw [eσ1]; exact mC_p0 j) dX4_digest_2 (fun H locs hP hS => ?_)
  refine lv_aload_n hx hb dX4_digest_5 rfl (lv_at hl 0 rfl) ?_
  obtain ⟨σ2, hq6, hf⟩ := obw hf
  refine g_callv (va_runV (As := []) (rest := []) S (met_X4_know l D cI cII κ hκ σ1 σ2 hq6) (cwV 0 S.2.2.2.2 gX4_digest_X4_know rfl rfl rfl (by decide +kernel) ⟨Nat.le_of_ble_eq_true rfl, Nat.le_of_ble_eq_true rfl⟩) (g_preV (N := 12) (T := TX4) hK hP (Nat.le_refl _) (by decide) rfl rfl) rfl rfl hl.1 rfl (lv_room (Nat.le_of_ble_eq_true rfl)) dX4_digest_6 ⟨Nat.le_of_ble_eq_true rfl, Nat.le_of_ble_eq_true rfl⟩) (Nat.le_refl _) hκ hA hP hS (fun j h1 h2 => absurd h2 (Nat.not_lt.mpr h1)) (fun H locs hP hS => ?_)
  refine lv_ldc2 (v := 4681) hx hb hown (hts (.constantLong RX4 129 4681) (by decide +kernel)) dX4_digest_9 ?_
  refine lv_aload_n hx hb dX4_digest_12 rfl (lv_at hl 0 rfl) ?_
  refine g_get (q := 0) (ci := 4) (k := 1) (ref := RX4) (C := RX4) (T := TX4) (N := 12) (index := 9) (v := .int ((σ2.1 1))) S hK hP hiX4 (by decide) rfl rfl (by decide) rfl (by decide +kernel) rfl dX4_digest_13 ?_
  refine lv_i2l (v := ((σ2.1 1)).toInt64) hx hb dX4_digest_16 rfl ?_
  refine lv_ladd hx hb dX4_digest_17 ?_
  obtain ⟨v3, ev3, hf⟩ := letb_w hf
  refine lv_nml ev3 ?_
  refine lv_lstore_n (lv' := [(1, .long v3), (0, .ref (κ 0))]) hx hb dX4_digest_18 rfl hl (by decide) rfl (fun ls hl => ?_)
  refine lv_iconst (v := 0) hx hb dX4_digest_19 (by decide) ?_
  obtain ⟨v4, ev4, hf⟩ := letb_w hf
  refine lv_nmi ev4 ?_
  refine lv_istore_n (lv' := [(3, .int v4), (1, .long v3), (0, .ref (κ 0))]) hx hb dX4_digest_20 rfl hl (by decide) rfl (fun ls hl => ?_)
  refine loopF_w (P := fun (g : Int64 → Int32 → Option (Int64 × SX)) => ∀ (x1_21 : Int64) (x3_21 : Int32), g x1_21 x3_21 = some (r, σ') → ∀ (H : Heap) (locs : List Loc) (ls : Array Slot), va_P D vwCl (gw 5 κ (mC cI cII κ σ2)) H → va_S (gA 5 κ) s.heap H locs → lv_has ls 5 [(0, .ref (κ 0)), (1, .long x1_21), (3, .int x3_21)] → W p l e ({ frames := 5, cells := 0, slots := 0, locals := 113 } : Room) s m args below meth c H locs 0 0 (MQ below (QL D cI cII 5 κ (mC cI cII κ σ') r) args s 0 0 (gA 5 κ)) (F0 m 21 ls [])) (fun _ _ h => by simp at h) ?_ FU _ _ hf _ _ _ hP hS (lv_sub hl [2, 1, 0] rfl)
  intro rec21 ih21 x1_21 x3_21 hf H locs ls hP hS hl
  unfold bd_X4_digest_21 at hf
  refine lv_iload_n hx hb dX4_digest_21 rfl (lv_at hl 2 rfl) ?_
  refine lv_aload_n hx hb dX4_digest_22 rfl (lv_at hl 0 rfl) ?_
  refine g_get (q := 0) (ci := 4) (k := 1) (ref := RX4) (C := RX4) (T := TX4) (N := 12) (index := 9) (v := .int ((σ2.1 1))) S hK hP hiX4 (by decide) rfl rfl (by decide) rfl (by decide +kernel) rfl dX4_digest_23 ?_
  refine lv_icmp_ge (tgt := 66) hx hb dX4_digest_26 (by decide) (fun c26 => ?_) (fun c26 => ?_)
  · have hf := iteT c26 hf
    refine lv_lload_n hx hb dX4_digest_66 rfl (lv_at hl 1 rfl) ?_
    refine lv_ldc2 (v := 31) hx hb hown (hts (.constantLong RX4 131 31) (by decide +kernel)) dX4_digest_67 ?_
    refine lv_lmul hx hb dX4_digest_70 ?_
    refine lv_aload_n hx hb dX4_digest_71 rfl (lv_at hl 0 rfl) ?_
    refine g_get (q := 0) (ci := 4) (k := 4) (ref := RX4) (C := RX4) (T := TX4) (N := 12) (index := 67) (v := .int ((σ2.1 3))) S hK hP hiX4 (by decide) rfl rfl (by decide) rfl (by decide +kernel) rfl dX4_digest_72 ?_
    refine lv_i2l (v := ((σ2.1 3)).toInt64) hx hb dX4_digest_75 rfl ?_
    refine lv_ladd hx hb dX4_digest_76 ?_
    obtain ⟨v5, ev5, hf⟩ := letb_w hf
    refine lv_nml ev5 ?_
    refine lv_lstore_n (lv' := [(1, .long v5), (0, .ref (κ 0)), (3, .int x3_21)]) hx hb dX4_digest_77 rfl hl (by decide) rfl (fun ls hl => ?_)
    refine lv_iconst (v := 0) hx hb dX4_digest_78 (by decide) ?_
    obtain ⟨v6, ev6, hf⟩ := letb_w hf
    refine lv_nmi ev6 ?_
    refine lv_istore_n (lv' := [(3, .int v6), (1, .long v5), (0, .ref (κ 0))]) hx hb dX4_digest_79 rfl hl (by decide) rfl (fun ls hl => ?_)
    refine loopF_w (P := fun (g : Int64 → Int32 → Option (Int64 × SX)) => ∀ (x1_80 : Int64) (x3_80 : Int32), g x1_80 x3_80 = some (r, σ') → ∀ (H : Heap) (locs : List Loc) (ls : Array Slot), va_P D vwCl (gw 5 κ (mC cI cII κ σ2)) H → va_S (gA 5 κ) s.heap H locs → lv_has ls 5 [(0, .ref (κ 0)), (1, .long x1_80), (3, .int x3_80)] → W p l e ({ frames := 5, cells := 0, slots := 0, locals := 113 } : Room) s m args below meth c H locs 0 0 (MQ below (QL D cI cII 5 κ (mC cI cII κ σ') r) args s 0 0 (gA 5 κ)) (F0 m 80 ls [])) (fun _ _ h => by simp at h) ?_ FU _ _ hf _ _ _ hP hS (lv_sub hl [2, 1, 0] rfl)
    intro rec80 ih80 x1_80 x3_80 hf H locs ls hP hS hl
    unfold bd_X4_digest_80 at hf
    refine lv_iload_n hx hb dX4_digest_80 rfl (lv_at hl 2 rfl) ?_
    refine lv_aload_n hx hb dX4_digest_81 rfl (lv_at hl 0 rfl) ?_
    refine g_get (q := 0) (ci := 4) (k := 4) (ref := RX4) (C := RX4) (T := TX4) (N := 12) (index := 67) (v := .int ((σ2.1 3))) S hK hP hiX4 (by decide) rfl rfl (by decide) rfl (by decide +kernel) rfl dX4_digest_82 ?_
    refine lv_icmp_ge (tgt := 108) hx hb dX4_digest_85 (by decide) (fun c85 => ?_) (fun c85 => ?_)
    · have hf := iteT c85 hf
      refine lv_aload_n hx hb dX4_digest_108 rfl (lv_at hl 0 rfl) ?_
      refine g_get (q := 0) (ci := 4) (k := 6) (ref := RX4) (C := RX4) (T := TX4) (N := 12) (index := 33) (v := .int ((σ2.1 4))) S hK hP hiX4 (by decide) rfl rfl (by decide) rfl (by decide +kernel) rfl dX4_digest_109 ?_
      refine lv_if_eq (tgt := 139) hx hb dX4_digest_112 (by decide) (fun c112 => ?_) (fun c112 => ?_)
      · have hf := iteT c112 hf
        refine lv_lload_n hx hb dX4_digest_139 rfl (lv_at hl 1 rfl) ?_
        obtain ⟨h8, h9⟩ := Prod.mk.inj (Option.some.inj hf)
        subst h9
        exact g_lret S hr hlk hK hP hS h8 dX4_digest_140
      · have hf := iteF c112 hf
        refine lv_lload_n hx hb dX4_digest_115 rfl (lv_at hl 1 rfl) ?_
        refine lv_ldc2 (v := 31) hx hb hown (hts (.constantLong RX4 131 31) (by decide +kernel)) dX4_digest_116 ?_
        refine lv_lmul hx hb dX4_digest_119 ?_
        refine lv_aload_n hx hb dX4_digest_120 rfl (lv_at hl 0 rfl) ?_
        refine g_get (q := 0) (ci := 4) (k := 7) (ref := RX4) (C := RX4) (T := TX4) (N := 12) (index := 102) (v := .int ((σ2.1 5))) S hK hP hiX4 (by decide) rfl rfl (by decide) rfl (by decide +kernel) rfl dX4_digest_121 ?_
        refine lv_i2l (v := ((σ2.1 5)).toInt64) hx hb dX4_digest_124 rfl ?_
        refine lv_ladd hx hb dX4_digest_125 ?_
        refine lv_ldc2 (v := 31) hx hb hown (hts (.constantLong RX4 131 31) (by decide +kernel)) dX4_digest_126 ?_
        refine lv_lmul hx hb dX4_digest_129 ?_
        refine lv_aload_n hx hb dX4_digest_130 rfl (lv_at hl 0 rfl) ?_
        refine g_get (q := 0) (ci := 4) (k := 9) (ref := RX4) (C := RX4) (T := TX4) (N := 12) (index := 111) (v := .int ((σ2.1 6))) S hK hP hiX4 (by decide) rfl rfl (by decide) rfl (by decide +kernel) rfl dX4_digest_131 ?_
        refine lv_i2l (v := ((σ2.1 6)).toInt64) hx hb dX4_digest_134 rfl ?_
        refine lv_ladd hx hb dX4_digest_135 ?_
        refine lv_goto (tgt := 140) hx hb dX4_digest_136 (by decide) ?_
        obtain ⟨h8, h9⟩ := Prod.mk.inj (Option.some.inj hf)
        subst h9
        exact g_lret S hr hlk hK hP hS h8 dX4_digest_140
    · have hf := iteF c85 hf
      refine lv_lload_n hx hb dX4_digest_88 rfl (lv_at hl 1 rfl) ?_
      refine lv_ldc2 (v := 31) hx hb hown (hts (.constantLong RX4 131 31) (by decide +kernel)) dX4_digest_89 ?_
      refine lv_lmul hx hb dX4_digest_92 ?_
      refine lv_aload_n hx hb dX4_digest_93 rfl (lv_at hl 0 rfl) ?_
      refine g_get (q := 0) (ci := 4) (k := 5) (ref := RX4) (C := RX4) (T := TX4) (N := 12) (index := 17) (v := .ref (κ 2)) S hK hP hiX4 (by decide) rfl rfl (by decide) rfl (by decide +kernel) rfl dX4_digest_94 ?_
      refine lv_iload_n hx hb dX4_digest_97 rfl (lv_at hl 2 rfl) ?_
      obtain ⟨v7, hv7, hf⟩ := obw hf
      refine g_ald (a := 2) (len := 4096) S hK hP (by decide) (mC_arr (by decide) rfl) hv7 dX4_digest_98 ?_
      refine lv_i2l (v := v7.toInt64) hx hb dX4_digest_99 rfl ?_
      refine lv_ladd hx hb dX4_digest_100 ?_
      obtain ⟨v8, ev8, hf⟩ := letb_w hf
      refine lv_nml ev8 ?_
      refine lv_lstore_n (lv' := [(1, .long v8), (0, .ref (κ 0)), (3, .int x3_80)]) hx hb dX4_digest_101 rfl hl (by decide) rfl (fun ls hl => ?_)
      obtain ⟨v9, ev9, hf⟩ := letb_w hf
      refine lv_iinc (v := v9) (lv' := [(3, .int v9), (1, .long v8), (0, .ref (κ 0))]) hx hb dX4_digest_102 hl (k := 2) rfl (by rw [ev9]; rfl) (by decide) rfl (fun ls hl => ?_)
      refine lv_goto (tgt := 80) hx hb dX4_digest_105 (by decide) ?_
      exact ih80 _ _ hf _ _ _ hP hS (lv_sub hl [2, 1, 0] rfl)
  · have hf := iteF c26 hf
    refine lv_iconst (v := 0) hx hb dX4_digest_29 (by decide) ?_
    obtain ⟨v10, ev10, hf⟩ := letb_w hf
    refine lv_nmi ev10 ?_
    refine lv_istore (lv' := [(4, .int v10), (0, .ref (κ 0)), (1, .long x1_21), (3, .int x3_21)]) hx hb dX4_digest_30 hl (by decide) rfl (fun ls hl => ?_)
    refine loopF_w (P := fun (g : Int64 → Int32 → Option (Int64 × SX)) => ∀ (x1_32 : Int64) (x4_32 : Int32), g x1_32 x4_32 = some (r, σ') → ∀ (H : Heap) (locs : List Loc) (ls : Array Slot), va_P D vwCl (gw 5 κ (mC cI cII κ σ2)) H → va_S (gA 5 κ) s.heap H locs → lv_has ls 5 [(0, .ref (κ 0)), (1, .long x1_32), (3, .int x3_21), (4, .int x4_32)] → W p l e ({ frames := 5, cells := 0, slots := 0, locals := 113 } : Room) s m args below meth c H locs 0 0 (MQ below (QL D cI cII 5 κ (mC cI cII κ σ') r) args s 0 0 (gA 5 κ)) (F0 m 32 ls [])) (fun _ _ h => by simp at h) ?_ FU _ _ hf _ _ _ hP hS (lv_sub hl [1, 2, 3, 0] rfl)
    intro rec32 ih32 x1_32 x4_32 hf H locs ls hP hS hl
    unfold bd_X4_digest_32 at hf
    refine lv_iload hx hb dX4_digest_32 (lv_at hl 3 rfl) ?_
    refine lv_bipush (v := 6) hx hb dX4_digest_34 (by decide) ?_
    refine lv_icmp_ge (tgt := 60) hx hb dX4_digest_36 (by decide) (fun c36 => ?_) (fun c36 => ?_)
    · have hf := iteT c36 hf
      obtain ⟨v11, ev11, hf⟩ := letb_w hf
      refine lv_iinc (v := v11) (lv' := [(3, .int v11), (0, .ref (κ 0)), (1, .long x1_32), (4, .int x4_32)]) hx hb dX4_digest_60 hl (k := 2) rfl (by rw [ev11]; rfl) (by decide) rfl (fun ls hl => ?_)
      refine lv_goto (tgt := 21) hx hb dX4_digest_63 (by decide) ?_
      exact ih21 _ _ hf _ _ _ hP hS (lv_sub hl [1, 2, 0] rfl)
    · have hf := iteF c36 hf
      refine lv_lload_n hx hb dX4_digest_39 rfl (lv_at hl 1 rfl) ?_
      refine lv_ldc2 (v := 31) hx hb hown (hts (.constantLong RX4 131 31) (by decide +kernel)) dX4_digest_40 ?_
      refine lv_lmul hx hb dX4_digest_43 ?_
      refine lv_aload_n hx hb dX4_digest_44 rfl (lv_at hl 0 rfl) ?_
      refine lv_iload_n hx hb dX4_digest_45 rfl (lv_at hl 2 rfl) ?_
      refine lv_iload hx hb dX4_digest_46 (lv_at hl 3 rfl) ?_
      obtain ⟨v12, hq48, hf⟩ := obw hf
      refine g_calli (va_runV (As := [.int x3_21, .int x4_32]) (rest := [.long ((x1_32 * (31 : Int64)))]) S (met_X4_to l D cI cII κ hκ σ2 x3_21 x4_32 v12 hq48) (cwV 2 S.2.2.2.2 gX4_digest_X4_to rfl rfl rfl (by decide +kernel) ⟨Nat.le_of_ble_eq_true rfl, Nat.le_of_ble_eq_true rfl⟩) (g_preV (N := 12) (T := TX4) hK hP (Nat.le_refl _) (by decide) rfl rfl) rfl rfl hl.1 rfl (lv_room (Nat.le_of_ble_eq_true rfl)) dX4_digest_48 ⟨Nat.le_of_ble_eq_true rfl, Nat.le_of_ble_eq_true rfl⟩) (Nat.le_refl _) hκ hA hP hS (fun j h1 h2 => absurd h2 (Nat.not_lt.mpr h1)) (fun H locs hP hS => ?_)
      refine lv_i2l (v := v12.toInt64) hx hb dX4_digest_51 rfl ?_
      refine lv_ladd hx hb dX4_digest_52 ?_
      obtain ⟨v13, ev13, hf⟩ := letb_w hf
      refine lv_nml ev13 ?_
      refine lv_lstore_n (lv' := [(1, .long v13), (0, .ref (κ 0)), (3, .int x3_21), (4, .int x4_32)]) hx hb dX4_digest_53 rfl hl (by decide) rfl (fun ls hl => ?_)
      obtain ⟨v14, ev14, hf⟩ := letb_w hf
      refine lv_iinc (v := v14) (lv' := [(4, .int v14), (1, .long v13), (0, .ref (κ 0)), (3, .int x3_21)]) hx hb dX4_digest_54 hl (k := 3) rfl (by rw [ev14]; rfl) (by decide) rfl (fun ls hl => ?_)
      refine lv_goto (tgt := 32) hx hb dX4_digest_57 (by decide) ?_
      exact ih32 _ _ hf _ _ _ hP hS (lv_sub hl [2, 1, 3, 0] rfl)
