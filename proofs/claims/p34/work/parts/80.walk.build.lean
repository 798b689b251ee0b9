/-! by wip/p34/gen.py: walks of the law: build -/
set_option maxRecDepth 100000 in
set_option maxHeartbeats 4000000 in
theorem met_L_build (l : Launch) (D : va_G) (cI cII : ClassId) (κ : Nat → Nat) (hκ : Inj 32 κ) (σ : SX) (p3 : Int32) (p4 : Int32) (b L : Nat) (xs : Nat → Int32) (hL : L < 2 ^ 31) (hkb : ∀ k, k < 32 → κ k ≠ b) (r : Int32) (σ' : SX) (hf : fn_L_build σ L xs p3 p4 = some (r, σ')) : Met l yL_build wsL_build ({ frames := 5, cells := 0, slots := 0, locals := 119 } : Room) (va_Pc [.ref (κ 0), .ref b, .int p3, .int p4, .ref (κ 31)] (bP D cI cII κ σ b L xs)) (QI D cI cII 32 κ (xC cI cII κ σ') r) 0 0 (gA 32 κ) := by
  refine g_enter (cc := cL_build) (maxL := 13) (ret := (some .int)) (by decide) rfl (Nat.le_of_ble_eq_true rfl) ?_
  intro p e s m args below meth c ls S hr hlk _ hB hl
  have S : CallFix p m c cL_build 13 s args wsL_build RL := S
  obtain ⟨⟨hP, hK⟩, hsX, hbl⟩ := hB
  have hl : lv_has ls 13 [(0, .ref (κ 0)), (1, .ref b), (2, .int p3), (3, .int p4), (4, .ref (κ 31))] := hl
  have hS : va_S (gA 32 κ) s.heap s.heap [] := va_S.rf
  have hA : ∀ k, k < 32 → gA 32 κ (κ k) := gA_in
  have hbA : ¬ gA 32 κ b := fun ⟨k, hk, q⟩ => hkb k hk q
  have hκ31 : Inj 31 κ := fun i j hi hj => hκ i j (by omega) (by omega)
  obtain ⟨hx, hb, hml, hown, hts⟩ := id S
  unfold fn_L_build at hf
  refine lv_iconst (v := 1) hx hb dL_build_0 (by decide) ?_
  refine lv_aload_n hx hb dL_build_1 rfl (lv_at hl 1 rfl) ?_
  refine lv_iload_n hx hb dL_build_2 rfl (lv_at hl 2 rfl) ?_
  obtain ⟨_, hn3, hf⟩ := obw hf
  refine k_cell S gL_build_L_cell hL (nn_w hn3) hsX hbl hbA hP hS hl.1 (lv_room (Nat.le_of_ble_eq_true rfl)) ⟨Nat.le_of_ble_eq_true rfl, Nat.le_of_ble_eq_true rfl⟩ ⟨Nat.le_of_ble_eq_true rfl, Nat.le_of_ble_eq_true rfl⟩ dL_build_3 (fun H locs hP hS => ?_)
  refine lv_iload_n hx hb dL_build_6 rfl (lv_at hl 3 rfl) ?_
  obtain ⟨v1, hq7, hf⟩ := obw hf
  refine g_calli (va_runS (As := [.int ((celv L xs p3)), .int p4]) (rest := [.int 1]) S (met_L_below l D cI cII 32 κ (xC cI cII κ σ) ((celv L xs p3)) p4 v1 hq7) (va_cwS 2 S.2.2.2.2 gL_build_L_below rfl rfl rfl (by decide +kernel) ⟨Nat.le_of_ble_eq_true rfl, Nat.le_of_ble_eq_true rfl⟩) (g_preS hK hP (Nat.le_refl _)) rfl rfl hl.1 rfl (lv_room (Nat.le_of_ble_eq_true rfl)) dL_build_7 ⟨Nat.le_of_ble_eq_true rfl, Nat.le_of_ble_eq_true rfl⟩) (Nat.le_refl _) hκ hA hP hS (fun j h1 h2 => absurd h2 (Nat.not_lt.mpr h1)) (fun H locs hP hS => ?_)
  refine lv_iadd hx hb dL_build_10 ?_
  obtain ⟨v2, ev2, hf⟩ := letb_w hf
  refine lv_nmi ev2 ?_
  refine lv_istore (lv' := [(5, .int v2), (0, .ref (κ 0)), (1, .ref b), (2, .int p3), (3, .int p4), (4, .ref (κ 31))]) hx hb dL_build_11 hl (by decide) rfl (fun ls hl => ?_)
  refine lv_iconst (v := 1) hx hb dL_build_13 (by decide) ?_
  refine lv_aload_n hx hb dL_build_14 rfl (lv_at hl 2 rfl) ?_
  refine lv_iload_n hx hb dL_build_15 rfl (lv_at hl 3 rfl) ?_
  obtain ⟨_, hn16, hf⟩ := obw hf
  refine k_cell S gL_build_L_cell hL (nn_w hn16) hsX hbl hbA hP hS hl.1 (lv_room (Nat.le_of_ble_eq_true rfl)) ⟨Nat.le_of_ble_eq_true rfl, Nat.le_of_ble_eq_true rfl⟩ ⟨Nat.le_of_ble_eq_true rfl, Nat.le_of_ble_eq_true rfl⟩ dL_build_16 (fun H locs hP hS => ?_)
  refine lv_iconst (v := 4) hx hb dL_build_19 (by decide) ?_
  refine lv_ishr hx hb dL_build_20 ?_
  refine lv_bipush (v := 6) hx hb dL_build_21 (by decide) ?_
  obtain ⟨v3, hq23, hf⟩ := obw hf
  refine g_calli (va_runS (As := [.int (((celv L xs p3) >>> (4 &&& 31))), .int 6]) (rest := [.int 1]) S (met_L_below l D cI cII 32 κ (xC cI cII κ σ) (((celv L xs p3) >>> (4 &&& 31))) 6 v3 hq23) (va_cwS 2 S.2.2.2.2 gL_build_L_below rfl rfl rfl (by decide +kernel) ⟨Nat.le_of_ble_eq_true rfl, Nat.le_of_ble_eq_true rfl⟩) (g_preS hK hP (Nat.le_refl _)) rfl rfl hl.1 rfl (lv_room (Nat.le_of_ble_eq_true rfl)) dL_build_23 ⟨Nat.le_of_ble_eq_true rfl, Nat.le_of_ble_eq_true rfl⟩) (Nat.le_refl _) hκ hA hP hS (fun j h1 h2 => absurd h2 (Nat.not_lt.mpr h1)) (fun H locs hP hS => ?_)
  refine lv_iadd hx hb dL_build_26 ?_
  obtain ⟨v4, ev4, hf⟩ := letb_w hf
  refine lv_nmi ev4 ?_
  refine lv_istore (lv' := [(6, .int v4), (5, .int v2), (0, .ref (κ 0)), (1, .ref b), (2, .int p3), (3, .int p4), (4, .ref (κ 31))]) hx hb dL_build_27 hl (by decide) rfl (fun ls hl => ?_)
  refine lv_iconst (v := 0) hx hb dL_build_29 (by decide) ?_
  obtain ⟨v5, ev5, hf⟩ := letb_w hf
  refine lv_nmi ev5 ?_
  refine lv_istore (lv' := [(7, .int v5), (6, .int v4), (5, .int v2), (0, .ref (κ 0)), (1, .ref b), (2, .int p3), (3, .int p4), (4, .ref (κ 31))]) hx hb dL_build_30 hl (by decide) rfl (fun ls hl => ?_)
  refine loopF_w (P := fun (g : Int32 → SX → Option (Int32 × SX)) => ∀ (x7_32 : Int32) (σ_32 : SX), g x7_32 σ_32 = some (r, σ') → ∀ (H : Heap) (locs : List Loc) (ls : Array Slot), va_P D vwCl (gw 32 κ (xC cI cII κ σ_32)) H → va_S (gA 32 κ) s.heap H locs → lv_has ls 13 [(0, .ref (κ 0)), (1, .ref b), (2, .int p3), (4, .ref (κ 31)), (5, .int v2), (6, .int v4), (7, .int x7_32)] → W p l e ({ frames := 5, cells := 0, slots := 0, locals := 119 } : Room) s m args below meth c H locs 0 0 (MQ below (QI D cI cII 32 κ (xC cI cII κ σ') r) args s 0 0 (gA 32 κ)) (F0 m 32 ls [])) (fun _ _ h => by simp at h) ?_ FU _ _ hf _ _ _ hP hS (lv_sub hl [3, 4, 5, 7, 2, 1, 0] rfl)
  intro rec32 ih32 x7_32 σ_32 hf H locs ls hP hS hl
  unfold bd_L_build_32 at hf
  refine lv_iload hx hb dL_build_32 (lv_at hl 6 rfl) ?_
  refine lv_aload hx hb dL_build_34 (lv_at hl 3 rfl) ?_
  refine va_alen hx hb hK.1 hP 31 0 (by rw [gw_at (by decide), xC_arr (by decide) (len := 72) rfl]) rfl (v := 72) (by show Int32.ofNat 72 = 72; decide) dL_build_36 ?_
  refine lv_icmp_ge (tgt := 52) hx hb dL_build_37 (by decide) (fun c37 => ?_) (fun c37 => ?_)
  · have hf := iteT c37 hf
    refine lv_iconst (v := 1) hx hb dL_build_52 (by decide) ?_
    obtain ⟨v6, ev6, hf⟩ := letb_w hf
    refine lv_nmi ev6 ?_
    refine lv_istore (lv' := [(7, .int v6), (0, .ref (κ 0)), (1, .ref b), (2, .int p3), (4, .ref (κ 31)), (5, .int v2), (6, .int v4)]) hx hb dL_build_53 hl (by decide) rfl (fun ls hl => ?_)
    refine loopF_w (P := fun (g : Int32 → SX → Option (Int32 × SX)) => ∀ (x7_55 : Int32) (σ_55 : SX), g x7_55 σ_55 = some (r, σ') → ∀ (H : Heap) (locs : List Loc) (ls : Array Slot), va_P D vwCl (gw 32 κ (xC cI cII κ σ_55)) H → va_S (gA 32 κ) s.heap H locs → lv_has ls 13 [(0, .ref (κ 0)), (1, .ref b), (2, .int p3), (4, .ref (κ 31)), (5, .int v2), (6, .int v4), (7, .int x7_55)] → W p l e ({ frames := 5, cells := 0, slots := 0, locals := 119 } : Room) s m args below meth c H locs 0 0 (MQ below (QI D cI cII 32 κ (xC cI cII κ σ') r) args s 0 0 (gA 32 κ)) (F0 m 55 ls [])) (fun _ _ h => by simp at h) ?_ FU _ _ hf _ _ _ hP hS (lv_sub hl [1, 2, 3, 4, 5, 6, 0] rfl)
    intro rec55 ih55 x7_55 σ_55 hf H locs ls hP hS hl
    unfold bd_L_build_55 at hf
    refine lv_iload hx hb dL_build_55 (lv_at hl 6 rfl) ?_
    refine lv_iload hx hb dL_build_57 (lv_at hl 4 rfl) ?_
    refine lv_icmp_ge (tgt := 79) hx hb dL_build_59 (by decide) (fun c59 => ?_) (fun c59 => ?_)
    · have hf := iteT c59 hf
      refine lv_aload_n hx hb dL_build_79 rfl (lv_at hl 1 rfl) ?_
      refine lv_iload_n hx hb dL_build_80 rfl (lv_at hl 2 rfl) ?_
      obtain ⟨_, hn81, hf⟩ := obw hf
      refine k_cell S gL_build_L_cell hL (nn_w hn81) hsX hbl hbA hP hS hl.1 (lv_room (Nat.le_of_ble_eq_true rfl)) ⟨Nat.le_of_ble_eq_true rfl, Nat.le_of_ble_eq_true rfl⟩ ⟨Nat.le_of_ble_eq_true rfl, Nat.le_of_ble_eq_true rfl⟩ dL_build_81 (fun H locs hP hS => ?_)
      refine lv_bipush (v := 8) hx hb dL_build_84 (by decide) ?_
      refine lv_ishr hx hb dL_build_86 ?_
      refine lv_iconst (v := 2) hx hb dL_build_87 (by decide) ?_
      refine lv_iload hx hb dL_build_88 (lv_at hl 4 rfl) ?_
      refine lv_imul hx hb dL_build_90 ?_
      refine lv_iconst (v := 4) hx hb dL_build_91 (by decide) ?_
      refine lv_iadd hx hb dL_build_92 ?_
      obtain ⟨v7, hq93, hf⟩ := obw hf
      refine g_calli (va_runS (As := [.int (((celv L xs p3) >>> (8 &&& 31))), .int (((2 * v2) + 4))]) (rest := []) S (met_L_below l D cI cII 32 κ (xC cI cII κ σ_55) (((celv L xs p3) >>> (8 &&& 31))) (((2 * v2) + 4)) v7 hq93) (va_cwS 2 S.2.2.2.2 gL_build_L_below rfl rfl rfl (by decide +kernel) ⟨Nat.le_of_ble_eq_true rfl, Nat.le_of_ble_eq_true rfl⟩) (g_preS hK hP (Nat.le_refl _)) rfl rfl hl.1 rfl (lv_room (Nat.le_of_ble_eq_true rfl)) dL_build_93 ⟨Nat.le_of_ble_eq_true rfl, Nat.le_of_ble_eq_true rfl⟩) (Nat.le_refl _) hκ hA hP hS (fun j h1 h2 => absurd h2 (Nat.not_lt.mpr h1)) (fun H locs hP hS => ?_)
      obtain ⟨v8, ev8, hf⟩ := letb_w hf
      refine lv_nmi ev8 ?_
      refine lv_istore (lv' := [(7, .int v8), (0, .ref (κ 0)), (1, .ref b), (2, .int p3), (4, .ref (κ 31)), (5, .int v2), (6, .int v4)]) hx hb dL_build_96 hl (by decide) rfl (fun ls hl => ?_)
      refine lv_iconst (v := 0) hx hb dL_build_98 (by decide) ?_
      obtain ⟨v9, ev9, hf⟩ := letb_w hf
      refine lv_nmi ev9 ?_
      refine lv_istore (lv' := [(8, .int v9), (7, .int v8), (0, .ref (κ 0)), (1, .ref b), (2, .int p3), (4, .ref (κ 31)), (5, .int v2), (6, .int v4)]) hx hb dL_build_99 hl (by decide) rfl (fun ls hl => ?_)
      refine loopF_w (P := fun (g : Int32 → SX → Option (Int32 × SX)) => ∀ (x8_101 : Int32) (σ_101 : SX), g x8_101 σ_101 = some (r, σ') → ∀ (H : Heap) (locs : List Loc) (ls : Array Slot), va_P D vwCl (gw 32 κ (xC cI cII κ σ_101)) H → va_S (gA 32 κ) s.heap H locs → lv_has ls 13 [(0, .ref (κ 0)), (1, .ref b), (2, .int p3), (4, .ref (κ 31)), (5, .int v2), (6, .int v4), (7, .int v8), (8, .int x8_101)] → W p l e ({ frames := 5, cells := 0, slots := 0, locals := 119 } : Room) s m args below meth c H locs 0 0 (MQ below (QI D cI cII 32 κ (xC cI cII κ σ') r) args s 0 0 (gA 32 κ)) (F0 m 101 ls [])) (fun _ _ h => by simp at h) ?_ FU _ _ hf _ _ _ hP hS (lv_sub hl [2, 3, 4, 5, 6, 7, 1, 0] rfl)
      intro rec101 ih101 x8_101 σ_101 hf H locs ls hP hS hl
      unfold bd_L_build_101 at hf
      refine lv_iload hx hb dL_build_101 (lv_at hl 7 rfl) ?_
      refine lv_iload hx hb dL_build_103 (lv_at hl 6 rfl) ?_
      refine lv_icmp_ge (tgt := 259) hx hb dL_build_105 (by decide) (fun c105 => ?_) (fun c105 => ?_)
      · have hf := iteT c105 hf
        refine lv_aload_n hx hb dL_build_259 rfl (lv_at hl 0 rfl) ?_
        obtain ⟨v10, hq260, hf⟩ := obw hf
        refine g_calli (va_runV (As := []) (rest := []) S (met_X3_stateCount l D cI cII κ hκ31 σ_101 v10 hq260) (cwV 0 S.2.2.2.2 gL_build_X3_stateCount rfl rfl rfl (by decide +kernel) ⟨Nat.le_of_ble_eq_true rfl, Nat.le_of_ble_eq_true rfl⟩) (g_preV (N := 3) (T := TX3) hK hP (Nat.le_of_ble_eq_true rfl) (by decide) rfl rfl) rfl rfl hl.1 rfl (lv_room (Nat.le_of_ble_eq_true rfl)) dL_build_260 ⟨Nat.le_of_ble_eq_true rfl, Nat.le_of_ble_eq_true rfl⟩) (Nat.le_of_ble_eq_true rfl) hκ hA hP hS (fun _ _ _ => rfl) (fun H locs hP hS => ?_)
        refine lv_iload hx hb dL_build_263 (lv_at hl 4 rfl) ?_
        refine lv_icmp_ne (tgt := 273) hx hb dL_build_265 (by decide) (fun c265 => ?_) (fun c265 => ?_)
        · have hf := iteT c265 hf
          refine lv_iconst (v := -1) hx hb dL_build_273 (by decide) ?_
          obtain ⟨h8, h9⟩ := Prod.mk.inj (Option.some.inj hf)
          subst h9
          exact g_iret S hr hlk hK hP hS h8 dL_build_274
        · have hf := iteN c265 hf
          refine lv_iload hx hb dL_build_268 (lv_at hl 4 rfl) ?_
          refine lv_goto (tgt := 274) hx hb dL_build_270 (by decide) ?_
          obtain ⟨h8, h9⟩ := Prod.mk.inj (Option.some.inj hf)
          subst h9
          exact g_iret S hr hlk hK hP hS h8 dL_build_274
      · have hf := iteF c105 hf
        refine lv_aload_n hx hb dL_build_108 rfl (lv_at hl 1 rfl) ?_
        refine lv_iload_n hx hb dL_build_109 rfl (lv_at hl 2 rfl) ?_
        refine lv_iconst (v := 1) hx hb dL_build_110 (by decide) ?_
        refine lv_iadd hx hb dL_build_111 ?_
        refine lv_iload hx hb dL_build_112 (lv_at hl 7 rfl) ?_
        refine lv_bipush (v := 6) hx hb dL_build_114 (by decide) ?_
        refine lv_irem hx hb dL_build_116 (by decide) ?_
        refine lv_iadd hx hb dL_build_117 ?_
        obtain ⟨_, hn118, hf⟩ := obw hf
        refine k_cell S gL_build_L_cell hL (nn_w hn118) hsX hbl hbA hP hS hl.1 (lv_room (Nat.le_of_ble_eq_true rfl)) ⟨Nat.le_of_ble_eq_true rfl, Nat.le_of_ble_eq_true rfl⟩ ⟨Nat.le_of_ble_eq_true rfl, Nat.le_of_ble_eq_true rfl⟩ dL_build_118 (fun H locs hP hS => ?_)
        refine lv_iload hx hb dL_build_121 (lv_at hl 7 rfl) ?_
        refine lv_bipush (v := 6) hx hb dL_build_123 (by decide) ?_
        refine lv_idiv hx hb dL_build_125 (by decide) ?_
        refine lv_iconst (v := 5) hx hb dL_build_126 (by decide) ?_
        refine lv_imul hx hb dL_build_127 ?_
        refine lv_ishr hx hb dL_build_128 ?_
        obtain ⟨v11, ev11, hf⟩ := letb_w hf
        refine lv_nmi ev11 ?_
        refine lv_istore (lv' := [(9, .int v11), (0, .ref (κ 0)), (1, .ref b), (2, .int p3), (4, .ref (κ 31)), (5, .int v2), (6, .int v4), (7, .int v8), (8, .int x8_101)]) hx hb dL_build_129 hl (by decide) rfl (fun ls hl => ?_)
        refine lv_iload hx hb dL_build_131 (lv_at hl 8 rfl) ?_
        refine lv_iload hx hb dL_build_133 (lv_at hl 5 rfl) ?_
        refine lv_iconst (v := 1) hx hb dL_build_135 (by decide) ?_
        refine lv_isub hx hb dL_build_136 ?_
        obtain ⟨K163, hK163, hf⟩ := letb_w hf
        have J163 : ∀ (z0_163 : Int32), K163 z0_163 = some (r, σ') → ∀ (H : Heap) (locs : List Loc) (ls : Array Slot), va_P D vwCl (gw 32 κ (xC cI cII κ σ_101)) H → va_S (gA 32 κ) s.heap H locs → lv_has ls 13 [(0, .ref (κ 0)), (1, .ref b), (2, .int p3), (4, .ref (κ 31)), (5, .int v2), (6, .int v4), (7, .int v8), (8, .int x8_101), (9, .int v11)] → W p l e ({ frames := 5, cells := 0, slots := 0, locals := 119 } : Room) s m args below meth c H locs 0 0 (MQ below (QI D cI cII 32 κ (xC cI cII κ σ') r) args s 0 0 (gA 32 κ)) (F0 m 163 ls [.int z0_163]) := by
          intro z0_163 hf H locs ls hP hS hl
          rw [hK163] at hf
          obtain ⟨v12, ev12, hf⟩ := letb_w hf
          refine lv_nmi ev12 ?_
          refine lv_istore (lv' := [(10, .int v12), (0, .ref (κ 0)), (1, .ref b), (2, .int p3), (4, .ref (κ 31)), (5, .int v2), (6, .int v4), (7, .int v8), (8, .int x8_101), (9, .int v11)]) hx hb dL_build_163 hl (by decide) rfl (fun ls hl => ?_)
          refine lv_iload hx hb dL_build_165 (lv_at hl 8 rfl) ?_
          refine lv_iload hx hb dL_build_167 (lv_at hl 5 rfl) ?_
          refine lv_iconst (v := 1) hx hb dL_build_169 (by decide) ?_
          refine lv_isub hx hb dL_build_170 ?_
          obtain ⟨K200, hK200, hf⟩ := letb_w hf
          have J200 : ∀ (z0_200 : Int32), K200 z0_200 = some (r, σ') → ∀ (H : Heap) (locs : List Loc) (ls : Array Slot), va_P D vwCl (gw 32 κ (xC cI cII κ σ_101)) H → va_S (gA 32 κ) s.heap H locs → lv_has ls 13 [(0, .ref (κ 0)), (1, .ref b), (2, .int p3), (4, .ref (κ 31)), (5, .int v2), (6, .int v4), (7, .int v8), (8, .int x8_101), (9, .int v11), (10, .int v12)] → W p l e ({ frames := 5, cells := 0, slots := 0, locals := 119 } : Room) s m args below meth c H locs 0 0 (MQ below (QI D cI cII 32 κ (xC cI cII κ σ') r) args s 0 0 (gA 32 κ)) (F0 m 200 ls [.int z0_200]) := by
            intro z0_200 hf H locs ls hP hS hl
            rw [hK200] at hf
            obtain ⟨v13, ev13, hf⟩ := letb_w hf
            refine lv_nmi ev13 ?_
            refine lv_istore (lv' := [(11, .int v13), (0, .ref (κ 0)), (1, .ref b), (2, .int p3), (4, .ref (κ 31)), (5, .int v2), (6, .int v4), (7, .int v8), (8, .int x8_101), (9, .int v11), (10, .int v12)]) hx hb dL_build_200 hl (by decide) rfl (fun ls hl => ?_)
            refine lv_iload hx hb dL_build_202 (lv_at hl 9 rfl) ?_
            refine lv_bipush (v := 10) hx hb dL_build_204 (by decide) ?_
            refine lv_ishr hx hb dL_build_206 ?_
            refine lv_iload hx hb dL_build_207 (lv_at hl 6 rfl) ?_
            obtain ⟨v14, hq209, hf⟩ := obw hf
            refine g_calli (va_runS (As := [.int ((v11 >>> (10 &&& 31))), .int v4]) (rest := []) S (met_L_below l D cI cII 32 κ (xC cI cII κ σ_101) ((v11 >>> (10 &&& 31))) v4 v14 hq209) (va_cwS 2 S.2.2.2.2 gL_build_L_below rfl rfl rfl (by decide +kernel) ⟨Nat.le_of_ble_eq_true rfl, Nat.le_of_ble_eq_true rfl⟩) (g_preS hK hP (Nat.le_refl _)) rfl rfl hl.1 rfl (lv_room (Nat.le_of_ble_eq_true rfl)) dL_build_209 ⟨Nat.le_of_ble_eq_true rfl, Nat.le_of_ble_eq_true rfl⟩) (Nat.le_refl _) hκ hA hP hS (fun j h1 h2 => absurd h2 (Nat.not_lt.mpr h1)) (fun H locs hP hS => ?_)
            obtain ⟨v15, ev15, hf⟩ := letb_w hf
            refine lv_nmi ev15 ?_
            refine lv_istore (lv' := [(12, .int v15), (11, .int v13), (0, .ref (κ 0)), (1, .ref b), (2, .int p3), (4, .ref (κ 31)), (5, .int v2), (6, .int v4), (7, .int v8), (8, .int x8_101), (9, .int v11), (10, .int v12)]) hx hb dL_build_212 hl (by decide) rfl (fun ls hl => ?_)
            refine lv_aload_n hx hb dL_build_214 rfl (lv_at hl 2 rfl) ?_
            refine lv_iload hx hb dL_build_215 (lv_at hl 11 rfl) ?_
            refine lv_iload hx hb dL_build_217 (lv_at hl 0 rfl) ?_
            refine lv_iload hx hb dL_build_219 (lv_at hl 1 rfl) ?_
            obtain ⟨v17, σ16, hq221, hf⟩ := bind2_w hf
            obtain ⟨σ18, eσ18, hf⟩ := letb_w hf
            have qσ18 : gP D cI cII 31 κ (xC cI cII κ σ18) = gP D cI cII 31 κ (xC cI cII κ σ16) := by rw [eσ18]; exact mrg_gP
            refine g_calli (f' := xC cI cII κ σ18) (by rw [qσ18]; exact (va_runV (As := [.int v12, .int v15, .int v13]) (rest := []) S (met_X3_step l D cI cII κ hκ31 σ_101 v12 v15 v13 v17 σ16 hq221) (cwV 3 S.2.2.2.2 gL_build_X3_step rfl rfl rfl (by decide +kernel) ⟨Nat.le_of_ble_eq_true rfl, Nat.le_of_ble_eq_true rfl⟩) (g_preV (N := 3) (T := TX3) hK hP (Nat.le_of_ble_eq_true rfl) (by decide) rfl rfl) rfl rfl hl.1 rfl (lv_room (Nat.le_of_ble_eq_true rfl)) dL_build_221 ⟨Nat.le_of_ble_eq_true rfl, Nat.le_of_ble_eq_true rfl⟩)) (Nat.le_of_ble_eq_true rfl) hκ hA hP hS (fun j h1 h2 => by rw [eσ18]; exact mrg_hi h1 h2) (fun H locs hP hS => ?_)
            refine lv_aload hx hb dL_build_224 (lv_at hl 5 rfl) ?_
            refine lv_bipush (v := 6) hx hb dL_build_226 (by decide) ?_
            refine lv_iload hx hb dL_build_228 (lv_at hl 11 rfl) ?_
            refine lv_imul hx hb dL_build_230 ?_
            refine lv_iload hx hb dL_build_231 (lv_at hl 0 rfl) ?_
            refine lv_iadd hx hb dL_build_233 ?_
            obtain ⟨v19, hv19, hf⟩ := obw hf
            refine g_ald (a := 31) (len := 72) S hK hP (by decide) (xC_arr (by decide) rfl) hv19 dL_build_234 ?_
            refine lv_icmp_eq (tgt := 240) hx hb dL_build_235 (by decide) (fun c235 => ?_) (fun c235 => ?_)
            · have hf := iteT c235 hf
              refine lv_aload hx hb dL_build_240 (lv_at hl 5 rfl) ?_
              refine lv_bipush (v := 6) hx hb dL_build_242 (by decide) ?_
              refine lv_iload hx hb dL_build_244 (lv_at hl 11 rfl) ?_
              refine lv_imul hx hb dL_build_246 ?_
              refine lv_iload hx hb dL_build_247 (lv_at hl 0 rfl) ?_
              refine lv_iadd hx hb dL_build_249 ?_
              refine lv_iload hx hb dL_build_250 (lv_at hl 1 rfl) ?_
              obtain ⟨σ20, hσ20, hf⟩ := obw hf
              refine g_ast (a := 31) (len := 72) (f' := (xC cI cII κ σ20)) S hK hP hκ hA hS (by decide) (xC_arr (by decide) rfl) hσ20 (fun j _ => xC_as hσ20 (by decide) rfl j) dL_build_252 (fun H locs hP hS => ?_)
              obtain ⟨v21, ev21, hf⟩ := letb_w hf
              refine lv_iinc (v := v21) (lv' := [(8, .int v21), (12, .int v15), (11, .int v13), (0, .ref (κ 0)), (1, .ref b), (2, .int p3), (4, .ref (κ 31)), (5, .int v2), (6, .int v4), (7, .int v8), (9, .int v11), (10, .int v12)]) hx hb dL_build_253 hl (k := 9) rfl (by rw [ev21]; rfl) (by decide) rfl (fun ls hl => ?_)
              refine lv_goto (tgt := 101) hx hb dL_build_256 (by decide) ?_
              exact ih101 _ _ hf _ _ _ hP hS (lv_sub hl [3, 4, 5, 6, 7, 8, 9, 0] rfl)
            · have hf := iteF c235 hf
              refine lv_iconst (v := -1) hx hb dL_build_238 (by decide) ?_
              obtain ⟨h8, h9⟩ := Prod.mk.inj (Option.some.inj hf)
              subst h9
              exact g_iret S hr hlk hK hP hS h8 dL_build_239
          obtain ⟨K190, hK190, hf⟩ := letb_w hf
          have J190 : ∀ (_u : Unit), K190 _u = some (r, σ') → ∀ (H : Heap) (locs : List Loc) (ls : Array Slot), va_P D vwCl (gw 32 κ (xC cI cII κ σ_101)) H → va_S (gA 32 κ) s.heap H locs → lv_has ls 13 [(0, .ref (κ 0)), (1, .ref b), (2, .int p3), (4, .ref (κ 31)), (5, .int v2), (6, .int v4), (7, .int v8), (8, .int x8_101), (9, .int v11), (10, .int v12)] → W p l e ({ frames := 5, cells := 0, slots := 0, locals := 119 } : Room) s m args below meth c H locs 0 0 (MQ below (QI D cI cII 32 κ (xC cI cII κ σ') r) args s 0 0 (gA 32 κ)) (F0 m 190 ls []) := by
            intro _u hf H locs ls hP hS hl
            rw [hK190] at hf
            refine lv_iload hx hb dL_build_190 (lv_at hl 8 rfl) ?_
            refine lv_bipush (v := 6) hx hb dL_build_192 (by decide) ?_
            refine lv_ishr hx hb dL_build_194 ?_
            refine lv_iload hx hb dL_build_195 (lv_at hl 4 rfl) ?_
            obtain ⟨v22, hq197, hf⟩ := obw hf
            refine g_calli (va_runS (As := [.int ((v11 >>> (6 &&& 31))), .int v2]) (rest := []) S (met_L_below l D cI cII 32 κ (xC cI cII κ σ_101) ((v11 >>> (6 &&& 31))) v2 v22 hq197) (va_cwS 2 S.2.2.2.2 gL_build_L_below rfl rfl rfl (by decide +kernel) ⟨Nat.le_of_ble_eq_true rfl, Nat.le_of_ble_eq_true rfl⟩) (g_preS hK hP (Nat.le_refl _)) rfl rfl hl.1 rfl (lv_room (Nat.le_of_ble_eq_true rfl)) dL_build_197 ⟨Nat.le_of_ble_eq_true rfl, Nat.le_of_ble_eq_true rfl⟩) (Nat.le_refl _) hκ hA hP hS (fun j h1 h2 => absurd h2 (Nat.not_lt.mpr h1)) (fun H locs hP hS => ?_)
            exact J200 _ hf _ _ _ hP hS (lv_sub hl [0, 1, 2, 3, 4, 5, 6, 7, 8, 9] rfl)
          refine lv_icmp_ge (tgt := 190) hx hb dL_build_171 (by decide) (fun c171 => ?_) (fun c171 => ?_)
          · have hf := iteT c171 hf
            exact J190 _ hf _ _ _ hP hS (lv_sub hl [1, 2, 3, 4, 5, 6, 7, 8, 9, 0] rfl)
          · have hf := iteF c171 hf
            refine lv_iload hx hb dL_build_174 (lv_at hl 9 rfl) ?_
            refine lv_iconst (v := 3) hx hb dL_build_176 (by decide) ?_
            obtain ⟨v23, hq177, hf⟩ := obw hf
            refine g_calli (va_runS (As := [.int v11, .int 3]) (rest := []) S (met_L_below l D cI cII 32 κ (xC cI cII κ σ_101) v11 3 v23 hq177) (va_cwS 2 S.2.2.2.2 gL_build_L_below rfl rfl rfl (by decide +kernel) ⟨Nat.le_of_ble_eq_true rfl, Nat.le_of_ble_eq_true rfl⟩) (g_preS hK hP (Nat.le_refl _)) rfl rfl hl.1 rfl (lv_room (Nat.le_of_ble_eq_true rfl)) dL_build_177 ⟨Nat.le_of_ble_eq_true rfl, Nat.le_of_ble_eq_true rfl⟩) (Nat.le_refl _) hκ hA hP hS (fun j h1 h2 => absurd h2 (Nat.not_lt.mpr h1)) (fun H locs hP hS => ?_)
            refine lv_if_le (tgt := 190) hx hb dL_build_180 (by decide) (fun c180 => ?_) (fun c180 => ?_)
            · have hf := iteT c180 hf
              exact J190 _ hf _ _ _ hP hS (lv_sub hl [1, 2, 3, 4, 5, 6, 7, 8, 9, 0] rfl)
            · have hf := iteF c180 hf
              refine lv_iload hx hb dL_build_183 (lv_at hl 8 rfl) ?_
              refine lv_iconst (v := 1) hx hb dL_build_185 (by decide) ?_
              refine lv_iadd hx hb dL_build_186 ?_
              refine lv_goto (tgt := 200) hx hb dL_build_187 (by decide) ?_
              exact J200 _ hf _ _ _ hP hS (lv_sub hl [1, 2, 3, 4, 5, 6, 7, 8, 9, 0] rfl)
        obtain ⟨K154, hK154, hf⟩ := letb_w hf
        have J154 : ∀ (_u : Unit), K154 _u = some (r, σ') → ∀ (H : Heap) (locs : List Loc) (ls : Array Slot), va_P D vwCl (gw 32 κ (xC cI cII κ σ_101)) H → va_S (gA 32 κ) s.heap H locs → lv_has ls 13 [(0, .ref (κ 0)), (1, .ref b), (2, .int p3), (4, .ref (κ 31)), (5, .int v2), (6, .int v4), (7, .int v8), (8, .int x8_101), (9, .int v11)] → W p l e ({ frames := 5, cells := 0, slots := 0, locals := 119 } : Room) s m args below meth c H locs 0 0 (MQ below (QI D cI cII 32 κ (xC cI cII κ σ') r) args s 0 0 (gA 32 κ)) (F0 m 154 ls []) := by
          intro _u hf H locs ls hP hS hl
          rw [hK154] at hf
          refine lv_iload hx hb dL_build_154 (lv_at hl 8 rfl) ?_
          refine lv_iconst (v := 2) hx hb dL_build_156 (by decide) ?_
          refine lv_ishr hx hb dL_build_157 ?_
          refine lv_iload hx hb dL_build_158 (lv_at hl 4 rfl) ?_
          obtain ⟨v24, hq160, hf⟩ := obw hf
          refine g_calli (va_runS (As := [.int ((v11 >>> (2 &&& 31))), .int v2]) (rest := []) S (met_L_below l D cI cII 32 κ (xC cI cII κ σ_101) ((v11 >>> (2 &&& 31))) v2 v24 hq160) (va_cwS 2 S.2.2.2.2 gL_build_L_below rfl rfl rfl (by decide +kernel) ⟨Nat.le_of_ble_eq_true rfl, Nat.le_of_ble_eq_true rfl⟩) (g_preS hK hP (Nat.le_refl _)) rfl rfl hl.1 rfl (lv_room (Nat.le_of_ble_eq_true rfl)) dL_build_160 ⟨Nat.le_of_ble_eq_true rfl, Nat.le_of_ble_eq_true rfl⟩) (Nat.le_refl _) hκ hA hP hS (fun j h1 h2 => absurd h2 (Nat.not_lt.mpr h1)) (fun H locs hP hS => ?_)
          exact J163 _ hf _ _ _ hP hS (lv_sub hl [0, 1, 2, 3, 4, 5, 6, 7, 8] rfl)
        refine lv_icmp_ge (tgt := 154) hx hb dL_build_137 (by decide) (fun c137 => ?_) (fun c137 => ?_)
        · have hf := iteT c137 hf
          exact J154 _ hf _ _ _ hP hS (lv_sub hl [1, 2, 3, 4, 5, 6, 7, 8, 0] rfl)
        · have hf := iteF c137 hf
          refine lv_iload hx hb dL_build_140 (lv_at hl 0 rfl) ?_
          refine lv_iconst (v := 3) hx hb dL_build_142 (by decide) ?_
          obtain ⟨v25, hq143, hf⟩ := obw hf
          refine g_calli (va_runS (As := [.int v11, .int 3]) (rest := []) S (met_L_below l D cI cII 32 κ (xC cI cII κ σ_101) v11 3 v25 hq143) (va_cwS 2 S.2.2.2.2 gL_build_L_below rfl rfl rfl (by decide +kernel) ⟨Nat.le_of_ble_eq_true rfl, Nat.le_of_ble_eq_true rfl⟩) (g_preS hK hP (Nat.le_refl _)) rfl rfl hl.1 rfl (lv_room (Nat.le_of_ble_eq_true rfl)) dL_build_143 ⟨Nat.le_of_ble_eq_true rfl, Nat.le_of_ble_eq_true rfl⟩) (Nat.le_refl _) hκ hA hP hS (fun j h1 h2 => absurd h2 (Nat.not_lt.mpr h1)) (fun H locs hP hS => ?_)
          refine lv_if_le (tgt := 154) hx hb dL_build_146 (by decide) (fun c146 => ?_) (fun c146 => ?_)
          · have hf := iteT c146 hf
            exact J154 _ hf _ _ _ hP hS (lv_sub hl [1, 2, 3, 4, 5, 6, 7, 8, 0] rfl)
          · have hf := iteF c146 hf
            refine lv_iload hx hb dL_build_149 (lv_at hl 8 rfl) ?_
            refine lv_goto (tgt := 163) hx hb dL_build_151 (by decide) ?_
            exact J163 _ hf _ _ _ hP hS (lv_sub hl [1, 2, 3, 4, 5, 6, 7, 8, 0] rfl)
    · have hf := iteF c59 hf
      refine lv_aload_n hx hb dL_build_62 rfl (lv_at hl 0 rfl) ?_
      obtain ⟨v27, σ26, hq63, hf⟩ := bind2_w hf
      obtain ⟨σ28, eσ28, hf⟩ := letb_w hf
      have qσ28 : gP D cI cII 31 κ (xC cI cII κ σ28) = gP D cI cII 31 κ (xC cI cII κ σ26) := by rw [eσ28]; exact mrg_gP
      refine g_calli (f' := xC cI cII κ σ28) (by rw [qσ28]; exact (va_runV (As := []) (rest := []) S (met_X3_addState l D cI cII κ hκ31 σ_55 v27 σ26 hq63) (cwV 0 S.2.2.2.2 gL_build_X3_addState rfl rfl rfl (by decide +kernel) ⟨Nat.le_of_ble_eq_true rfl, Nat.le_of_ble_eq_true rfl⟩) (g_preV (N := 3) (T := TX3) hK hP (Nat.le_of_ble_eq_true rfl) (by decide) rfl rfl) rfl rfl hl.1 rfl (lv_room (Nat.le_of_ble_eq_true rfl)) dL_build_63 ⟨Nat.le_of_ble_eq_true rfl, Nat.le_of_ble_eq_true rfl⟩)) (Nat.le_of_ble_eq_true rfl) hκ hA hP hS (fun j h1 h2 => by rw [eσ28]; exact mrg_hi h1 h2) (fun H locs hP hS => ?_)
      refine lv_iload hx hb dL_build_66 (lv_at hl 6 rfl) ?_
      refine lv_icmp_eq (tgt := 73) hx hb dL_build_68 (by decide) (fun c68 => ?_) (fun c68 => ?_)
      · have hf := iteT c68 hf
        obtain ⟨v29, ev29, hf⟩ := letb_w hf
        refine lv_iinc (v := v29) (lv' := [(7, .int v29), (0, .ref (κ 0)), (1, .ref b), (2, .int p3), (4, .ref (κ 31)), (5, .int v2), (6, .int v4)]) hx hb dL_build_73 hl (k := 6) rfl (by rw [ev29]; rfl) (by decide) rfl (fun ls hl => ?_)
        refine lv_goto (tgt := 55) hx hb dL_build_76 (by decide) ?_
        exact ih55 _ _ hf _ _ _ hP hS (lv_sub hl [1, 2, 3, 4, 5, 6, 0] rfl)
      · have hf := iteF c68 hf
        refine lv_iconst (v := -1) hx hb dL_build_71 (by decide) ?_
        obtain ⟨h8, h9⟩ := Prod.mk.inj (Option.some.inj hf)
        subst h9
        exact g_iret S hr hlk hK hP hS h8 dL_build_72
  · have hf := iteF c37 hf
    refine lv_aload hx hb dL_build_40 (lv_at hl 3 rfl) ?_
    refine lv_iload hx hb dL_build_42 (lv_at hl 6 rfl) ?_
    refine lv_iconst (v := -1) hx hb dL_build_44 (by decide) ?_
    obtain ⟨σ30, hσ30, hf⟩ := obw hf
    refine g_ast (a := 31) (len := 72) (f' := (xC cI cII κ σ30)) S hK hP hκ hA hS (by decide) (xC_arr (by decide) rfl) hσ30 (fun j _ => xC_as hσ30 (by decide) rfl j) dL_build_45 (fun H locs hP hS => ?_)
    obtain ⟨v31, ev31, hf⟩ := letb_w hf
    refine lv_iinc (v := v31) (lv' := [(7, .int v31), (0, .ref (κ 0)), (1, .ref b), (2, .int p3), (4, .ref (κ 31)), (5, .int v2), (6, .int v4)]) hx hb dL_build_46 hl (k := 6) rfl (by rw [ev31]; rfl) (by decide) rfl (fun ls hl => ?_)
    refine lv_goto (tgt := 32) hx hb dL_build_49 (by decide) ?_
    exact ih32 _ _ hf _ _ _ hP hS (lv_sub hl [1, 2, 3, 4, 5, 6, 0] rfl)
