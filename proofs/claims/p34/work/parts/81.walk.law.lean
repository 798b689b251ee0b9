/-! by wip/p34/gen.py: walks of the law -/
set_option maxRecDepth 100000 in
set_option maxHeartbeats 4000000 in
theorem wk_L_law {b L : Nat} {xs : Nat → Int32} {p : Program} {l : Launch} {e : Env} {s : State} {m : MethodId} {args : Array Value} {below : List Frame} {meth : Method} {c : Code} {H : Heap} {locs : List Loc} {Q : State → Prop} {ls : Array Slot} {A : Nat → Prop} {D : va_G} {cI cII : ClassId} {κ : Nat → Nat} {σ σ' : SX} {r : Int32} (hκ : Inj 32 κ) (S : CallFix p m c cL_law 13 s args wsL_law RL)
    (hK : KX D cI cII s) (hP : va_P D vwCl (gw 32 κ (xC cI cII κ σ)) H) (hA : ∀ k, k < 32 → A (κ k)) (hS : va_S A s.heap H locs) (hl : lv_has ls 13 [(2, .ref (κ 31)), (1, .ref (κ 0)), (0, .ref b)]) (hf : fw_L_law σ L xs = some (r, σ')) (hL : L < 2 ^ 31) (hsX : va_X b L xs s s.heap) (hbl : b < s.heap.size) (hbA : ¬ A b)
    (kk : ∀ (H : Heap) (locs : List Loc) (ls : Array Slot) (v : Int32) , zr v = some r → va_P D vwCl (gw 32 κ (xC cI cII κ σ')) H → va_S A s.heap H locs → W p l e room_1 s m args below meth c H locs 600130 7301080 Q (F0 m 489 ls [.int v])) : W p l e room_1 s m args below meth c H locs 600130 7301080 Q (F0 m 13 ls []) := by
  have hκ31 : Inj 31 κ := fun i j hi hj => hκ i j (by omega) (by omega)
  have hkb : ∀ k, k < 32 → κ k ≠ b := fun k hk q => hbA (q ▸ hA k hk)
  obtain ⟨hx, hb, hml, hown, hts⟩ := id S
  unfold fw_L_law at hf
  refine lv_aload_n hx hb dL_law_13 rfl (lv_at hl 1 rfl) ?_
  refine lv_aload_n hx hb dL_law_14 rfl (lv_at hl 2 rfl) ?_
  refine lv_iconst (v := 0) hx hb dL_law_15 (by decide) ?_
  refine lv_bipush (v := 6) hx hb dL_law_16 (by decide) ?_
  refine lv_aload_n hx hb dL_law_18 rfl (lv_at hl 0 rfl) ?_
  obtain ⟨v2, σ1, hq19, hf⟩ := bind2_w hf
  refine g_calli (va_runS (As := [.ref (κ 0), .ref b, .int 0, .int 6, .ref (κ 31)]) (rest := []) S (met_L_build l D cI cII κ hκ σ 0 6 b L xs hL hkb v2 σ1 hq19) (va_cwS 5 S.2.2.2.2 gL_law_L_build rfl rfl rfl (by decide +kernel) ⟨Nat.le_of_ble_eq_true rfl, Nat.le_of_ble_eq_true rfl⟩) (b_preS hK hP hsX hbl hbA hS) rfl rfl hl.1 rfl (lv_room (Nat.le_of_ble_eq_true rfl)) dL_law_19 ⟨Nat.le_of_ble_eq_true rfl, Nat.le_of_ble_eq_true rfl⟩) (Nat.le_refl _) hκ hA hP hS (fun j h1 h2 => absurd h2 (Nat.not_lt.mpr h1)) (fun H locs hP hS => ?_)
  obtain ⟨v3, ev3, hf⟩ := letb_w hf
  refine lv_nmi ev3 ?_
  refine lv_istore_n (lv' := [(3, .int v3), (2, .ref (κ 31)), (1, .ref (κ 0)), (0, .ref b)]) hx hb dL_law_22 rfl hl (by decide) rfl (fun ls hl => ?_)
  refine lv_iload_n hx hb dL_law_23 rfl (lv_at hl 0 rfl) ?_
  refine lv_if_ge (tgt := 29) hx hb dL_law_24 (by decide) (fun c24 => ?_) (fun c24 => ?_)
  · have hf := iteT c24 hf
    refine lv_iconst (v := 1) hx hb dL_law_29 (by decide) ?_
    refine lv_iload_n hx hb dL_law_30 rfl (lv_at hl 0 rfl) ?_
    refine lv_ishl hx hb dL_law_31 ?_
    refine lv_iconst (v := 1) hx hb dL_law_32 (by decide) ?_
    refine lv_isub hx hb dL_law_33 ?_
    obtain ⟨v4, ev4, hf⟩ := letb_w hf
    refine lv_nmi ev4 ?_
    refine lv_istore (lv' := [(4, .int v4), (3, .int v3), (2, .ref (κ 31)), (1, .ref (κ 0)), (0, .ref b)]) hx hb dL_law_34 hl (by decide) rfl (fun ls hl => ?_)
    refine lv_aload_n hx hb dL_law_36 rfl (lv_at hl 3 rfl) ?_
    obtain ⟨v6, σ5, hq37, hf⟩ := bind2_w hf
    obtain ⟨σ7, eσ7, hf⟩ := letb_w hf
    have qσ7 : gP D cI cII 31 κ (xC cI cII κ σ7) = gP D cI cII 31 κ (xC cI cII κ σ5) := by rw [eσ7]; exact mrg_gP
    refine g_calli (f' := xC cI cII κ σ7) (by rw [qσ7]; exact (va_runV (As := []) (rest := []) S (met_X3_regionCount l D cI cII κ hκ31 σ1 v6 σ5 hq37) (cwV 0 S.2.2.2.2 gL_law_X3_regionCount rfl rfl rfl (by decide +kernel) ⟨Nat.le_of_ble_eq_true rfl, Nat.le_of_ble_eq_true rfl⟩) (g_preV (N := 3) (T := TX3) hK hP (Nat.le_of_ble_eq_true rfl) (by decide) rfl rfl) rfl rfl hl.1 rfl (lv_room (Nat.le_of_ble_eq_true rfl)) dL_law_37 ⟨Nat.le_of_ble_eq_true rfl, Nat.le_of_ble_eq_true rfl⟩)) (Nat.le_of_ble_eq_true rfl) hκ hA hP hS (fun j h1 h2 => by rw [eσ7]; exact mrg_hi h1 h2) (fun H locs hP hS => ?_)
    obtain ⟨v8, ev8, hf⟩ := letb_w hf
    refine lv_nmi ev8 ?_
    refine lv_istore (lv' := [(5, .int v8), (4, .int v4), (3, .int v3), (2, .ref (κ 31)), (1, .ref (κ 0)), (0, .ref b)]) hx hb dL_law_40 hl (by decide) rfl (fun ls hl => ?_)
    refine lv_iconst (v := 0) hx hb dL_law_42 (by decide) ?_
    obtain ⟨v9, ev9, hf⟩ := letb_w hf
    refine lv_nmi ev9 ?_
    refine lv_istore (lv' := [(6, .int v9), (5, .int v8), (4, .int v4), (3, .int v3), (2, .ref (κ 31)), (1, .ref (κ 0)), (0, .ref b)]) hx hb dL_law_43 hl (by decide) rfl (fun ls hl => ?_)
    refine lv_iconst (v := 0) hx hb dL_law_45 (by decide) ?_
    obtain ⟨v10, ev10, hf⟩ := letb_w hf
    refine lv_nmi ev10 ?_
    refine lv_istore (lv' := [(7, .int v10), (6, .int v9), (5, .int v8), (4, .int v4), (3, .int v3), (2, .ref (κ 31)), (1, .ref (κ 0)), (0, .ref b)]) hx hb dL_law_46 hl (by decide) rfl (fun ls hl => ?_)
    refine loopF_w (P := fun (g : Int32 → Int32 → SX → Option (Int32 × SX)) => ∀ (x6_48 : Int32) (x7_48 : Int32) (σ_48 : SX), g x6_48 x7_48 σ_48 = some (r, σ') → ∀ (H : Heap) (locs : List Loc) (ls : Array Slot), va_P D vwCl (gw 32 κ (xC cI cII κ σ_48)) H → va_S (A) s.heap H locs → lv_has ls 13 [(0, .ref b), (1, .ref (κ 0)), (4, .int v4), (5, .int v8), (6, .int x6_48), (7, .int x7_48)] → W p l e room_1 s m args below meth c H locs 600130 7301080 Q (F0 m 48 ls [])) (fun _ _ _ h => by simp at h) ?_ FU _ _ _ hf _ _ _ hP hS (lv_sub hl [7, 6, 3, 2, 1, 0] rfl)
    intro rec48 ih48 x6_48 x7_48 σ_48 hf H locs ls hP hS hl
    unfold bd_L_law_48 at hf
    refine lv_iload hx hb dL_law_48 (lv_at hl 5 rfl) ?_
    refine lv_iload hx hb dL_law_50 (lv_at hl 3 rfl) ?_
    refine lv_icmp_ge (tgt := 272) hx hb dL_law_52 (by decide) (fun c52 => ?_) (fun c52 => ?_)
    · have hf := iteT c52 hf
      refine lv_aload_n hx hb dL_law_272 rfl (lv_at hl 1 rfl) ?_
      obtain ⟨v12, σ11, hq273, hf⟩ := bind2_w hf
      obtain ⟨σ13, eσ13, hf⟩ := letb_w hf
      have qσ13 : gP D cI cII 31 κ (xC cI cII κ σ13) = gP D cI cII 31 κ (xC cI cII κ σ11) := by rw [eσ13]; exact mrg_gP
      refine g_calli (f' := xC cI cII κ σ13) (by rw [qσ13]; exact (va_runV (As := []) (rest := []) S (met_X3_makeNet l D cI cII κ hκ31 σ_48 v12 σ11 hq273) (cwV 0 S.2.2.2.2 gL_law_X3_makeNet rfl rfl rfl (by decide +kernel) ⟨Nat.le_of_ble_eq_true rfl, Nat.le_of_ble_eq_true rfl⟩) (g_preV (N := 3) (T := TX3) hK hP (Nat.le_of_ble_eq_true rfl) (by decide) rfl rfl) rfl rfl hl.1 rfl (lv_room (Nat.le_of_ble_eq_true rfl)) dL_law_273 ⟨Nat.le_of_ble_eq_true rfl, Nat.le_of_ble_eq_true rfl⟩)) (Nat.le_of_ble_eq_true rfl) hκ hA hP hS (fun j h1 h2 => by rw [eσ13]; exact mrg_hi h1 h2) (fun H locs hP hS => ?_)
      refine lv_iload hx hb dL_law_276 (lv_at hl 4 rfl) ?_
      refine lv_bipush (v := 30) hx hb dL_law_278 (by decide) ?_
      refine va_mmin hx hb (S.2.2.1.trans hl.1.symm) hown (hts (.methodLink RL 63 Lib.Math.min.name) (by decide +kernel)) (hts (.static Lib.Math.min.name) (by decide +kernel)) (hts (.initialized "java/lang/Math") (by decide +kernel)) (hts (.code Lib.Math.min.name Lib.Math.min.code 2 (some .int)) (by decide +kernel)) (Nat.le_of_ble_eq_true rfl) (Nat.le_of_ble_eq_true rfl) (Nat.le_of_ble_eq_true rfl) (Nat.le_of_ble_eq_true rfl) dL_law_280 ?_
      refine lv_icmp_eq (tgt := 288) hx hb dL_law_283 (by decide) (fun c283 => ?_) (fun c283 => ?_)
      · have hf := iteT c283 hf
        refine lv_aload_n hx hb dL_law_288 rfl (lv_at hl 1 rfl) ?_
        obtain ⟨v15, σ14, hq289, hf⟩ := bind2_w hf
        obtain ⟨σ16, eσ16, hf⟩ := letb_w hf
        have qσ16 : gP D cI cII 31 κ (xC cI cII κ σ16) = gP D cI cII 31 κ (xC cI cII κ σ14) := by rw [eσ16]; exact mrg_gP
        refine g_calli (f' := xC cI cII κ σ16) (by rw [qσ16]; exact (va_runV (As := []) (rest := []) S (met_X3_lumps l D cI cII κ hκ31 σ13 v15 σ14 hq289) (cwV 0 S.2.2.2.2 gL_law_X3_lumps rfl rfl rfl (by decide +kernel) ⟨Nat.le_of_ble_eq_true rfl, Nat.le_of_ble_eq_true rfl⟩) (g_preV (N := 3) (T := TX3) hK hP (Nat.le_of_ble_eq_true rfl) (by decide) rfl rfl) rfl rfl hl.1 rfl (lv_room (Nat.le_of_ble_eq_true rfl)) dL_law_289 ⟨Nat.le_of_ble_eq_true rfl, Nat.le_of_ble_eq_true rfl⟩)) (Nat.le_of_ble_eq_true rfl) hκ hA hP hS (fun j h1 h2 => by rw [eσ16]; exact mrg_hi h1 h2) (fun H locs hP hS => ?_)
        refine lv_aload_n hx hb dL_law_292 rfl (lv_at hl 1 rfl) ?_
        obtain ⟨v18, σ17, hq293, hf⟩ := bind2_w hf
        obtain ⟨σ19, eσ19, hf⟩ := letb_w hf
        have qσ19 : gP D cI cII 31 κ (xC cI cII κ σ19) = gP D cI cII 31 κ (xC cI cII κ σ17) := by rw [eσ19]; exact mrg_gP
        refine g_calli (f' := xC cI cII κ σ19) (by rw [qσ19]; exact (va_runV (As := []) (rest := [.int v15]) S (met_X3_leaks l D cI cII κ hκ31 σ16 v18 σ17 hq293) (cwV 0 S.2.2.2.2 gL_law_X3_leaks rfl rfl rfl (by decide +kernel) ⟨Nat.le_of_ble_eq_true rfl, Nat.le_of_ble_eq_true rfl⟩) (g_preV (N := 3) (T := TX3) hK hP (Nat.le_of_ble_eq_true rfl) (by decide) rfl rfl) rfl rfl hl.1 rfl (lv_room (Nat.le_of_ble_eq_true rfl)) dL_law_293 ⟨Nat.le_of_ble_eq_true rfl, Nat.le_of_ble_eq_true rfl⟩)) (Nat.le_of_ble_eq_true rfl) hκ hA hP hS (fun j h1 h2 => by rw [eσ19]; exact mrg_hi h1 h2) (fun H locs hP hS => ?_)
        refine lv_iadd hx hb dL_law_296 ?_
        obtain ⟨K305, hK305, hf⟩ := letb_w hf
        have J305 : ∀ (z0_305 : Int32), K305 z0_305 = some (r, σ') → ∀ (H : Heap) (locs : List Loc) (ls : Array Slot), va_P D vwCl (gw 32 κ (xC cI cII κ σ19)) H → va_S (A) s.heap H locs → lv_has ls 13 [(0, .ref b), (1, .ref (κ 0)), (6, .int x6_48)] → W p l e room_1 s m args below meth c H locs 600130 7301080 Q (F0 m 305 ls [.int z0_305]) := by
          intro z0_305 hf H locs ls hP hS hl
          rw [hK305] at hf
          refine lv_aload_n hx hb dL_law_305 rfl (lv_at hl 1 rfl) ?_
          obtain ⟨v21, σ20, hq306, hf⟩ := bind2_w hf
          obtain ⟨σ22, eσ22, hf⟩ := letb_w hf
          have qσ22 : gP D cI cII 31 κ (xC cI cII κ σ22) = gP D cI cII 31 κ (xC cI cII κ σ20) := by rw [eσ22]; exact mrg_gP
          refine g_calld (f' := xC cI cII κ σ22) (by rw [qσ22]; exact (va_runV (As := []) (rest := [.int z0_305]) S (met_X3_fidelity l D cI cII κ hκ31 σ19 v21 σ20 hq306) (cwV 0 S.2.2.2.2 gL_law_X3_fidelity rfl rfl rfl (by decide +kernel) ⟨Nat.le_of_ble_eq_true rfl, Nat.le_of_ble_eq_true rfl⟩) (g_preV (N := 3) (T := TX3) hK hP (Nat.le_of_ble_eq_true rfl) (by decide) rfl rfl) rfl rfl hl.1 rfl (lv_room (Nat.le_of_ble_eq_true rfl)) dL_law_306 ⟨Nat.le_of_ble_eq_true rfl, Nat.le_of_ble_eq_true rfl⟩)) (Nat.le_of_ble_eq_true rfl) hκ hA hP hS (fun j h1 h2 => by rw [eσ22]; exact mrg_hi h1 h2) (fun H locs hP hS => ?_)
          refine lv_dconst1 hx hb dL_law_309 ?_
          refine lv_dcmp hx hb dL_law_310 ?_
          obtain ⟨K319, hK319, hf⟩ := letb_w hf
          have J319 : ∀ (z1_319 : Int32), K319 z1_319 = some (r, σ') → ∀ (H : Heap) (locs : List Loc) (ls : Array Slot), va_P D vwCl (gw 32 κ (xC cI cII κ σ22)) H → va_S (A) s.heap H locs → lv_has ls 13 [(0, .ref b), (1, .ref (κ 0)), (6, .int x6_48)] → W p l e room_1 s m args below meth c H locs 600130 7301080 Q (F0 m 319 ls [.int z1_319, .int z0_305]) := by
            intro z1_319 hf H locs ls hP hS hl
            rw [hK319] at hf
            refine lv_icmp_eq (tgt := 324) hx hb dL_law_319 (by decide) (fun c319 => ?_) (fun c319 => ?_)
            · have hf := iteT c319 hf
              refine lv_iload hx hb dL_law_324 (lv_at hl 2 rfl) ?_
              refine lv_bipush (v := 30) hx hb dL_law_326 (by decide) ?_
              obtain ⟨K363, hK363, hf⟩ := letb_w hf
              have J363 : ∀ (τ_363 : SX), K363 τ_363 = some (r, σ') → ∀ (H : Heap) (locs : List Loc) (ls : Array Slot), va_P D vwCl (gw 32 κ (xC cI cII κ τ_363)) H → va_S (A) s.heap H locs → lv_has ls 13 [(0, .ref b), (1, .ref (κ 0)), (6, .int x6_48)] → W p l e room_1 s m args below meth c H locs 600130 7301080 Q (F0 m 363 ls []) := by
                intro τ_363 hf H locs ls hP hS hl
                rw [hK363] at hf
                refine lv_iconst (v := 0) hx hb dL_law_363 (by decide) ?_
                obtain ⟨v23, ev23, hf⟩ := letb_w hf
                refine lv_nmi ev23 ?_
                refine lv_istore (lv' := [(7, .int v23), (0, .ref b), (1, .ref (κ 0)), (6, .int x6_48)]) hx hb dL_law_364 hl (by decide) rfl (fun ls hl => ?_)
                refine lv_iconst (v := 0) hx hb dL_law_366 (by decide) ?_
                obtain ⟨v24, ev24, hf⟩ := letb_w hf
                refine lv_nmi ev24 ?_
                refine lv_istore (lv' := [(8, .int v24), (7, .int v23), (0, .ref b), (1, .ref (κ 0)), (6, .int x6_48)]) hx hb dL_law_367 hl (by decide) rfl (fun ls hl => ?_)
                refine loopF_w (P := fun (g : Int32 → Int32 → SX → Option (Int32 × SX)) => ∀ (x7_369 : Int32) (x8_369 : Int32) (σ_369 : SX), g x7_369 x8_369 σ_369 = some (r, σ') → ∀ (H : Heap) (locs : List Loc) (ls : Array Slot), va_P D vwCl (gw 32 κ (xC cI cII κ σ_369)) H → va_S (A) s.heap H locs → lv_has ls 13 [(0, .ref b), (1, .ref (κ 0)), (6, .int x6_48), (7, .int x7_369), (8, .int x8_369)] → W p l e room_1 s m args below meth c H locs 600130 7301080 Q (F0 m 369 ls [])) (fun _ _ _ h => by simp at h) ?_ FU _ _ _ hf _ _ _ hP hS (lv_sub hl [2, 3, 4, 1, 0] rfl)
                intro rec369 ih369 x7_369 x8_369 σ_369 hf H locs ls hP hS hl
                unfold bd_L_law_369 at hf
                refine lv_iload hx hb dL_law_369 (lv_at hl 4 rfl) ?_
                refine lv_bipush (v := 12) hx hb dL_law_371 (by decide) ?_
                refine lv_icmp_ge (tgt := 488) hx hb dL_law_373 (by decide) (fun c373 => ?_) (fun c373 => ?_)
                · have hf := iteT c373 hf
                  refine lv_iconst (v := 1) hx hb dL_law_488 (by decide) ?_
                  obtain ⟨w9, hw9, hf⟩ := obw hf
                  obtain ⟨h8, h9⟩ := Prod.mk.inj (Option.some.inj hf)
                  subst h8
                  subst h9
                  exact kk _ _ _ _ hw9 hP hS
                · have hf := iteF c373 hf
                  refine lv_aload_n hx hb dL_law_376 rfl (lv_at hl 0 rfl) ?_
                  refine lv_bipush (v := 8) hx hb dL_law_377 (by decide) ?_
                  refine lv_iload hx hb dL_law_379 (lv_at hl 4 rfl) ?_
                  refine lv_bipush (v := 8) hx hb dL_law_381 (by decide) ?_
                  refine lv_irem hx hb dL_law_383 (by decide) ?_
                  refine lv_iadd hx hb dL_law_384 ?_
                  obtain ⟨_, hn385, hf⟩ := obw hf
                  refine k_cell S gL_law_L_cell hL (nn_w hn385) hsX hbl hbA hP hS hl.1 (lv_room (Nat.le_of_ble_eq_true rfl)) ⟨Nat.le_of_ble_eq_true rfl, Nat.le_of_ble_eq_true rfl⟩ ⟨Nat.le_of_ble_eq_true rfl, Nat.le_of_ble_eq_true rfl⟩ dL_law_385 (fun H locs hP hS => ?_)
                  refine lv_iload hx hb dL_law_388 (lv_at hl 4 rfl) ?_
                  refine lv_bipush (v := 8) hx hb dL_law_390 (by decide) ?_
                  refine lv_idiv hx hb dL_law_392 (by decide) ?_
                  refine lv_ishr hx hb dL_law_393 ?_
                  refine lv_bipush (v := 6) hx hb dL_law_394 (by decide) ?_
                  obtain ⟨v25, hq396, hf⟩ := obw hf
                  refine g_calli (va_runS (As := [.int (((celv L xs ((8 + (x8_369 - x8_369 / 8 * 8)))) >>> ((x8_369 / 8) &&& 31))), .int 6]) (rest := []) S (met_L_below l D cI cII 32 κ (xC cI cII κ σ_369) (((celv L xs ((8 + (x8_369 - x8_369 / 8 * 8)))) >>> ((x8_369 / 8) &&& 31))) 6 v25 hq396) (va_cwS 2 S.2.2.2.2 gL_law_L_below rfl rfl rfl (by decide +kernel) ⟨Nat.le_of_ble_eq_true rfl, Nat.le_of_ble_eq_true rfl⟩) (g_preS hK hP (Nat.le_refl _)) rfl rfl hl.1 rfl (lv_room (Nat.le_of_ble_eq_true rfl)) dL_law_396 ⟨Nat.le_of_ble_eq_true rfl, Nat.le_of_ble_eq_true rfl⟩) (Nat.le_refl _) hκ hA hP hS (fun j h1 h2 => absurd h2 (Nat.not_lt.mpr h1)) (fun H locs hP hS => ?_)
                  obtain ⟨v26, ev26, hf⟩ := letb_w hf
                  refine lv_nmi ev26 ?_
                  refine lv_istore (lv' := [(9, .int v26), (0, .ref b), (1, .ref (κ 0)), (6, .int x6_48), (7, .int x7_369), (8, .int x8_369)]) hx hb dL_law_399 hl (by decide) rfl (fun ls hl => ?_)
                  refine lv_aload_n hx hb dL_law_401 rfl (lv_at hl 2 rfl) ?_
                  refine lv_iload hx hb dL_law_402 (lv_at hl 4 rfl) ?_
                  refine lv_iload hx hb dL_law_404 (lv_at hl 0 rfl) ?_
                  obtain ⟨v28, σ27, hq406, hf⟩ := bind2_w hf
                  obtain ⟨σ29, eσ29, hf⟩ := letb_w hf
                  have qσ29 : gP D cI cII 31 κ (xC cI cII κ σ29) = gP D cI cII 31 κ (xC cI cII κ σ27) := by rw [eσ29]; exact mrg_gP
                  refine g_calli (f' := xC cI cII κ σ29) (by rw [qσ29]; exact (va_runV (As := [.int x7_369, .int v26]) (rest := []) S (met_X3_target l D cI cII κ hκ31 σ_369 x7_369 v26 v28 σ27 hq406) (cwV 2 S.2.2.2.2 gL_law_X3_target rfl rfl rfl (by decide +kernel) ⟨Nat.le_of_ble_eq_true rfl, Nat.le_of_ble_eq_true rfl⟩) (g_preV (N := 3) (T := TX3) hK hP (Nat.le_of_ble_eq_true rfl) (by decide) rfl rfl) rfl rfl hl.1 rfl (lv_room (Nat.le_of_ble_eq_true rfl)) dL_law_406 ⟨Nat.le_of_ble_eq_true rfl, Nat.le_of_ble_eq_true rfl⟩)) (Nat.le_of_ble_eq_true rfl) hκ hA hP hS (fun j h1 h2 => by rw [eσ29]; exact mrg_hi h1 h2) (fun H locs hP hS => ?_)
                  obtain ⟨v30, ev30, hf⟩ := letb_w hf
                  refine lv_nmi ev30 ?_
                  refine lv_istore (lv' := [(10, .int v30), (9, .int v26), (0, .ref b), (1, .ref (κ 0)), (6, .int x6_48), (7, .int x7_369), (8, .int x8_369)]) hx hb dL_law_409 hl (by decide) rfl (fun ls hl => ?_)
                  refine lv_iload hx hb dL_law_411 (lv_at hl 0 rfl) ?_
                  obtain ⟨K482, hK482, hf⟩ := letb_w hf
                  have J482 : ∀ (y7_482 : Int32) (τ_482 : SX), K482 y7_482 τ_482 = some (r, σ') → ∀ (H : Heap) (locs : List Loc) (ls : Array Slot), va_P D vwCl (gw 32 κ (xC cI cII κ τ_482)) H → va_S (A) s.heap H locs → lv_has ls 13 [(0, .ref b), (1, .ref (κ 0)), (6, .int x6_48), (7, .int y7_482), (8, .int x8_369)] → W p l e room_1 s m args below meth c H locs 600130 7301080 Q (F0 m 482 ls []) := by
                    intro y7_482 τ_482 hf H locs ls hP hS hl
                    rw [hK482] at hf
                    obtain ⟨v31, ev31, hf⟩ := letb_w hf
                    refine lv_iinc (v := v31) (lv' := [(8, .int v31), (0, .ref b), (1, .ref (κ 0)), (6, .int x6_48), (7, .int y7_482)]) hx hb dL_law_482 hl (k := 4) rfl (by rw [ev31]; rfl) (by decide) rfl (fun ls hl => ?_)
                    refine lv_goto (tgt := 369) hx hb dL_law_485 (by decide) ?_
                    exact ih369 _ _ _ hf _ _ _ hP hS (lv_sub hl [1, 2, 3, 4, 0] rfl)
                  refine lv_if_ge (tgt := 419) hx hb dL_law_413 (by decide) (fun c413 => ?_) (fun c413 => ?_)
                  · have hf := iteT c413 hf
                    refine lv_aload_n hx hb dL_law_419 rfl (lv_at hl 3 rfl) ?_
                    refine lv_iload hx hb dL_law_420 (lv_at hl 1 rfl) ?_
                    obtain ⟨v33, σ32, hq422, hf⟩ := bind2_w hf
                    obtain ⟨σ34, eσ34, hf⟩ := letb_w hf
                    have qσ34 : gP D cI cII 31 κ (xC cI cII κ σ34) = gP D cI cII 31 κ (xC cI cII κ σ32) := by rw [eσ34]; exact mrg_gP
                    refine g_calli (f' := xC cI cII κ σ34) (by rw [qσ34]; exact (va_runV (As := [.int v26]) (rest := []) S (met_X3_fire l D cI cII κ hκ31 σ29 v26 v33 σ32 hq422) (cwV 1 S.2.2.2.2 gL_law_X3_fire rfl rfl rfl (by decide +kernel) ⟨Nat.le_of_ble_eq_true rfl, Nat.le_of_ble_eq_true rfl⟩) (g_preV (N := 3) (T := TX3) hK hP (Nat.le_of_ble_eq_true rfl) (by decide) rfl rfl) rfl rfl hl.1 rfl (lv_room (Nat.le_of_ble_eq_true rfl)) dL_law_422 ⟨Nat.le_of_ble_eq_true rfl, Nat.le_of_ble_eq_true rfl⟩)) (Nat.le_of_ble_eq_true rfl) hκ hA hP hS (fun j h1 h2 => by rw [eσ34]; exact mrg_hi h1 h2) (fun H locs hP hS => ?_)
                    obtain ⟨v35, ev35, hf⟩ := letb_w hf
                    refine lv_nmi ev35 ?_
                    refine lv_istore (lv' := [(11, .int v35), (10, .int v30), (9, .int v26), (0, .ref b), (1, .ref (κ 0)), (6, .int x6_48), (7, .int x7_369), (8, .int x8_369)]) hx hb dL_law_425 hl (by decide) rfl (fun ls hl => ?_)
                    refine lv_iload hx hb dL_law_427 (lv_at hl 0 rfl) ?_
                    refine lv_if_ge (tgt := 434) hx hb dL_law_429 (by decide) (fun c429 => ?_) (fun c429 => ?_)
                    · have hf := iteT c429 hf
                      refine lv_iload hx hb dL_law_434 (lv_at hl 1 rfl) ?_
                      obtain ⟨v36, ev36, hf⟩ := letb_w hf
                      refine lv_nmi ev36 ?_
                      refine lv_istore (lv' := [(7, .int v36), (11, .int v35), (10, .int v30), (9, .int v26), (0, .ref b), (1, .ref (κ 0)), (6, .int x6_48), (8, .int x8_369)]) hx hb dL_law_436 hl (by decide) rfl (fun ls hl => ?_)
                      refine lv_iconst (v := 0) hx hb dL_law_438 (by decide) ?_
                      obtain ⟨v37, ev37, hf⟩ := letb_w hf
                      refine lv_nmi ev37 ?_
                      refine lv_istore (lv' := [(12, .int v37), (7, .int v36), (11, .int v35), (10, .int v30), (9, .int v26), (0, .ref b), (1, .ref (κ 0)), (6, .int x6_48), (8, .int x8_369)]) hx hb dL_law_439 hl (by decide) rfl (fun ls hl => ?_)
                      refine loopF_w (P := fun (g : Int32 → SX → Option (Int32 × SX)) => ∀ (x12_441 : Int32) (σ_441 : SX), g x12_441 σ_441 = some (r, σ') → ∀ (H : Heap) (locs : List Loc) (ls : Array Slot), va_P D vwCl (gw 32 κ (xC cI cII κ σ_441)) H → va_S (A) s.heap H locs → lv_has ls 13 [(0, .ref b), (1, .ref (κ 0)), (6, .int x6_48), (7, .int v36), (8, .int x8_369), (11, .int v35), (12, .int x12_441)] → W p l e room_1 s m args below meth c H locs 600130 7301080 Q (F0 m 441 ls [])) (fun _ _ h => by simp at h) ?_ FU _ _ hf _ _ _ hP hS (lv_sub hl [5, 6, 7, 1, 8, 2, 0] rfl)
                      intro rec441 ih441 x12_441 σ_441 hf H locs ls hP hS hl
                      unfold bd_L_law_441 at hf
                      refine lv_iload hx hb dL_law_441 (lv_at hl 6 rfl) ?_
                      refine lv_iload hx hb dL_law_443 (lv_at hl 2 rfl) ?_
                      refine lv_bipush (v := 30) hx hb dL_law_445 (by decide) ?_
                      refine va_mmin hx hb (S.2.2.1.trans hl.1.symm) hown (hts (.methodLink RL 63 Lib.Math.min.name) (by decide +kernel)) (hts (.static Lib.Math.min.name) (by decide +kernel)) (hts (.initialized "java/lang/Math") (by decide +kernel)) (hts (.code Lib.Math.min.name Lib.Math.min.code 2 (some .int)) (by decide +kernel)) (Nat.le_of_ble_eq_true rfl) (Nat.le_of_ble_eq_true rfl) (Nat.le_of_ble_eq_true rfl) (Nat.le_of_ble_eq_true rfl) dL_law_447 ?_
                      refine lv_icmp_ge (tgt := 482) hx hb dL_law_450 (by decide) (fun c450 => ?_) (fun c450 => ?_)
                      · have hf := iteT c450 hf
                        exact J482 _ _ hf _ _ _ hP hS (lv_sub hl [0, 1, 2, 3, 4] rfl)
                      · have hf := iteF c450 hf
                        refine lv_iload hx hb dL_law_453 (lv_at hl 5 rfl) ?_
                        refine lv_iload hx hb dL_law_455 (lv_at hl 6 rfl) ?_
                        refine lv_ishr hx hb dL_law_457 ?_
                        refine lv_iconst (v := 1) hx hb dL_law_458 (by decide) ?_
                        refine lv_iand hx hb dL_law_459 ?_
                        refine lv_aload_n hx hb dL_law_460 rfl (lv_at hl 1 rfl) ?_
                        refine lv_iload hx hb dL_law_461 (lv_at hl 6 rfl) ?_
                        obtain ⟨v39, σ38, hq463, hf⟩ := bind2_w hf
                        obtain ⟨σ40, eσ40, hf⟩ := letb_w hf
                        have qσ40 : gP D cI cII 31 κ (xC cI cII κ σ40) = gP D cI cII 31 κ (xC cI cII κ σ38) := by rw [eσ40]; exact mrg_gP
                        refine g_calli (f' := xC cI cII κ σ40) (by rw [qσ40]; exact (va_runV (As := [.int x12_441]) (rest := [.int (((v35 >>> (x12_441 &&& 31)) &&& 1))]) S (met_X3_placeRegion l D cI cII κ hκ31 σ_441 x12_441 v39 σ38 hq463) (cwV 1 S.2.2.2.2 gL_law_X3_placeRegion rfl rfl rfl (by decide +kernel) ⟨Nat.le_of_ble_eq_true rfl, Nat.le_of_ble_eq_true rfl⟩) (g_preV (N := 3) (T := TX3) hK hP (Nat.le_of_ble_eq_true rfl) (by decide) rfl rfl) rfl rfl hl.1 rfl (lv_room (Nat.le_of_ble_eq_true rfl)) dL_law_463 ⟨Nat.le_of_ble_eq_true rfl, Nat.le_of_ble_eq_true rfl⟩)) (Nat.le_of_ble_eq_true rfl) hκ hA hP hS (fun j h1 h2 => by rw [eσ40]; exact mrg_hi h1 h2) (fun H locs hP hS => ?_)
                        refine lv_iload hx hb dL_law_466 (lv_at hl 3 rfl) ?_
                        refine lv_ishr hx hb dL_law_468 ?_
                        refine lv_iconst (v := 1) hx hb dL_law_469 (by decide) ?_
                        refine lv_iand hx hb dL_law_470 ?_
                        refine lv_icmp_eq (tgt := 476) hx hb dL_law_471 (by decide) (fun c471 => ?_) (fun c471 => ?_)
                        · have hf := iteT c471 hf
                          obtain ⟨v41, ev41, hf⟩ := letb_w hf
                          refine lv_iinc (v := v41) (lv' := [(12, .int v41), (0, .ref b), (1, .ref (κ 0)), (6, .int x6_48), (7, .int v36), (8, .int x8_369), (11, .int v35)]) hx hb dL_law_476 hl (k := 6) rfl (by rw [ev41]; rfl) (by decide) rfl (fun ls hl => ?_)
                          refine lv_goto (tgt := 441) hx hb dL_law_479 (by decide) ?_
                          exact ih441 _ _ hf _ _ _ hP hS (lv_sub hl [1, 2, 3, 4, 5, 6, 0] rfl)
                        · have hf := iteF c471 hf
                          refine lv_iconst (v := 0) hx hb dL_law_474 (by decide) ?_
                          cases hf
                    · have hf := iteF c429 hf
                      refine lv_iconst (v := 0) hx hb dL_law_432 (by decide) ?_
                      cases hf
                  · have hf := iteF c413 hf
                    refine lv_goto (tgt := 482) hx hb dL_law_416 (by decide) ?_
                    exact J482 _ _ hf _ _ _ hP hS (lv_sub hl [2, 3, 4, 5, 6] rfl)
              refine lv_icmp_gt (tgt := 363) hx hb dL_law_328 (by decide) (fun c328 => ?_) (fun c328 => ?_)
              · have hf := iteT c328 hf
                exact J363 _ hf _ _ _ hP hS (lv_sub hl [0, 1, 2] rfl)
              · have hf := iteF c328 hf
                refine lv_aload_n hx hb dL_law_331 rfl (lv_at hl 1 rfl) ?_
                obtain ⟨v43, σ42, hq332, hf⟩ := bind2_w hf
                obtain ⟨σ44, eσ44, hf⟩ := letb_w hf
                have qσ44 : gP D cI cII 31 κ (xC cI cII κ σ44) = gP D cI cII 31 κ (xC cI cII κ σ42) := by rw [eσ44]; exact mrg_gP
                refine g_calld (f' := xC cI cII κ σ44) (by rw [qσ44]; exact (va_runV (As := []) (rest := []) S (met_X3_fidelity l D cI cII κ hκ31 σ22 v43 σ42 hq332) (cwV 0 S.2.2.2.2 gL_law_X3_fidelity rfl rfl rfl (by decide +kernel) ⟨Nat.le_of_ble_eq_true rfl, Nat.le_of_ble_eq_true rfl⟩) (g_preV (N := 3) (T := TX3) hK hP (Nat.le_of_ble_eq_true rfl) (by decide) rfl rfl) rfl rfl hl.1 rfl (lv_room (Nat.le_of_ble_eq_true rfl)) dL_law_332 ⟨Nat.le_of_ble_eq_true rfl, Nat.le_of_ble_eq_true rfl⟩)) (Nat.le_of_ble_eq_true rfl) hκ hA hP hS (fun j h1 h2 => by rw [eσ44]; exact mrg_hi h1 h2) (fun H locs hP hS => ?_)
                refine lv_dconst1 hx hb dL_law_335 ?_
                refine lv_dcmp hx hb dL_law_336 ?_
                refine lv_if_ne (tgt := 363) hx hb dL_law_337 (by decide) (fun c337 => ?_) (fun c337 => ?_)
                · have hf := iteT c337 hf
                  exact J363 _ hf _ _ _ hP hS (lv_sub hl [0, 1, 2] rfl)
                · have hf := iteN c337 hf
                  refine lv_aload_n hx hb dL_law_340 rfl (lv_at hl 1 rfl) ?_
                  obtain ⟨v46, σ45, hq341, hf⟩ := bind2_w hf
                  obtain ⟨σ47, eσ47, hf⟩ := letb_w hf
                  have qσ47 : gP D cI cII 31 κ (xC cI cII κ σ47) = gP D cI cII 31 κ (xC cI cII κ σ45) := by rw [eσ47]; exact mrg_gP
                  refine g_calli (f' := xC cI cII κ σ47) (by rw [qσ47]; exact (va_runV (As := []) (rest := []) S (met_X3_isFaithful l D cI cII κ hκ31 σ44 v46 σ45 hq341) (cwV 0 S.2.2.2.2 gL_law_X3_isFaithful rfl rfl rfl (by decide +kernel) ⟨Nat.le_of_ble_eq_true rfl, Nat.le_of_ble_eq_true rfl⟩) (g_preV (N := 3) (T := TX3) hK hP (Nat.le_of_ble_eq_true rfl) (by decide) rfl rfl) rfl rfl hl.1 rfl (lv_room (Nat.le_of_ble_eq_true rfl)) dL_law_341 ⟨Nat.le_of_ble_eq_true rfl, Nat.le_of_ble_eq_true rfl⟩)) (Nat.le_of_ble_eq_true rfl) hκ hA hP hS (fun j h1 h2 => by rw [eσ47]; exact mrg_hi h1 h2) (fun H locs hP hS => ?_)
                  obtain ⟨K361, hK361, hf⟩ := letb_w hf
                  have J361 : ∀ (τ_361 : SX), K361 τ_361 = some (r, σ') → ∀ (H : Heap) (locs : List Loc) (ls : Array Slot), va_P D vwCl (gw 32 κ (xC cI cII κ τ_361)) H → va_S (A) s.heap H locs → lv_has ls 13 [] → W p l e room_1 s m args below meth c H locs 600130 7301080 Q (F0 m 361 ls []) := by
                    intro τ_361 hf H locs ls hP hS hl
                    rw [hK361] at hf
                    refine lv_iconst (v := 0) hx hb dL_law_361 (by decide) ?_
                    cases hf
                  refine lv_if_eq (tgt := 361) hx hb dL_law_344 (by decide) (fun c344 => ?_) (fun c344 => ?_)
                  · have hf := iteT c344 hf
                    exact J361 _ hf _ _ _ hP hS (lv_sub hl [] rfl)
                  · have hf := iteF c344 hf
                    refine lv_aload_n hx hb dL_law_347 rfl (lv_at hl 1 rfl) ?_
                    obtain ⟨v49, σ48, hq348, hf⟩ := bind2_w hf
                    obtain ⟨σ50, eσ50, hf⟩ := letb_w hf
                    have qσ50 : gP D cI cII 31 κ (xC cI cII κ σ50) = gP D cI cII 31 κ (xC cI cII κ σ48) := by rw [eσ50]; exact mrg_gP
                    refine g_calli (f' := xC cI cII κ σ50) (by rw [qσ50]; exact (va_runV (As := []) (rest := []) S (met_X3_markingCount l D cI cII κ hκ31 σ47 v49 σ48 hq348) (cwV 0 S.2.2.2.2 gL_law_X3_markingCount rfl rfl rfl (by decide +kernel) ⟨Nat.le_of_ble_eq_true rfl, Nat.le_of_ble_eq_true rfl⟩) (g_preV (N := 3) (T := TX3) hK hP (Nat.le_of_ble_eq_true rfl) (by decide) rfl rfl) rfl rfl hl.1 rfl (lv_room (Nat.le_of_ble_eq_true rfl)) dL_law_348 ⟨Nat.le_of_ble_eq_true rfl, Nat.le_of_ble_eq_true rfl⟩)) (Nat.le_of_ble_eq_true rfl) hκ hA hP hS (fun j h1 h2 => by rw [eσ50]; exact mrg_hi h1 h2) (fun H locs hP hS => ?_)
                    refine lv_aload_n hx hb dL_law_351 rfl (lv_at hl 1 rfl) ?_
                    obtain ⟨v51, hq352, hf⟩ := obw hf
                    refine g_calli (va_runV (As := []) (rest := [.int v49]) S (met_X3_reached l D cI cII κ hκ31 σ50 v51 hq352) (cwV 0 S.2.2.2.2 gL_law_X3_reached rfl rfl rfl (by decide +kernel) ⟨Nat.le_of_ble_eq_true rfl, Nat.le_of_ble_eq_true rfl⟩) (g_preV (N := 3) (T := TX3) hK hP (Nat.le_of_ble_eq_true rfl) (by decide) rfl rfl) rfl rfl hl.1 rfl (lv_room (Nat.le_of_ble_eq_true rfl)) dL_law_352 ⟨Nat.le_of_ble_eq_true rfl, Nat.le_of_ble_eq_true rfl⟩) (Nat.le_of_ble_eq_true rfl) hκ hA hP hS (fun _ _ _ => rfl) (fun H locs hP hS => ?_)
                    obtain ⟨v52, hq355, hf⟩ := obw hf
                    refine g_calli (va_runS (As := [.int v51]) (rest := [.int v49]) S (met_J6_bitCount l D cI cII 32 κ (xC cI cII κ σ50) v51 v52 hq355) (va_cwS 1 S.2.2.2.2 gL_law_J6_bitCount_0f7a4 rfl rfl rfl (by decide +kernel) ⟨Nat.le_of_ble_eq_true rfl, Nat.le_of_ble_eq_true rfl⟩) (g_preS hK hP (Nat.le_refl _)) rfl rfl hl.1 rfl (lv_room (Nat.le_of_ble_eq_true rfl)) dL_law_355 ⟨Nat.le_of_ble_eq_true rfl, Nat.le_of_ble_eq_true rfl⟩) (Nat.le_refl _) hκ hA hP hS (fun j h1 h2 => absurd h2 (Nat.not_lt.mpr h1)) (fun H locs hP hS => ?_)
                    refine lv_icmp_eq (tgt := 363) hx hb dL_law_358 (by decide) (fun c358 => ?_) (fun c358 => ?_)
                    · have hf := iteT c358 hf
                      exact J363 _ hf _ _ _ hP hS (lv_sub hl [0, 1, 2] rfl)
                    · have hf := iteF c358 hf
                      exact J361 _ hf _ _ _ hP hS (lv_sub hl [] rfl)
            · have hf := iteF c319 hf
              refine lv_iconst (v := 0) hx hb dL_law_322 (by decide) ?_
              cases hf
          refine lv_if_ne (tgt := 318) hx hb dL_law_311 (by decide) (fun c311 => ?_) (fun c311 => ?_)
          · have hf := iteT c311 hf
            refine lv_iconst (v := 0) hx hb dL_law_318 (by decide) ?_
            exact J319 _ hf _ _ _ hP hS (lv_sub hl [0, 1, 2] rfl)
          · have hf := iteN c311 hf
            refine lv_iconst (v := 1) hx hb dL_law_314 (by decide) ?_
            refine lv_goto (tgt := 319) hx hb dL_law_315 (by decide) ?_
            exact J319 _ hf _ _ _ hP hS (lv_sub hl [0, 1, 2] rfl)
        refine lv_if_ne (tgt := 304) hx hb dL_law_297 (by decide) (fun c297 => ?_) (fun c297 => ?_)
        · have hf := iteT c297 hf
          refine lv_iconst (v := 0) hx hb dL_law_304 (by decide) ?_
          exact J305 _ hf _ _ _ hP hS (lv_sub hl [0, 1, 4] rfl)
        · have hf := iteN c297 hf
          refine lv_iconst (v := 1) hx hb dL_law_300 (by decide) ?_
          refine lv_goto (tgt := 305) hx hb dL_law_301 (by decide) ?_
          exact J305 _ hf _ _ _ hP hS (lv_sub hl [0, 1, 4] rfl)
      · have hf := iteF c283 hf
        refine lv_iconst (v := 0) hx hb dL_law_286 (by decide) ?_
        cases hf
    · have hf := iteF c52 hf
      refine lv_aload_n hx hb dL_law_55 rfl (lv_at hl 1 rfl) ?_
      refine lv_iload hx hb dL_law_56 (lv_at hl 5 rfl) ?_
      obtain ⟨v54, σ53, hq58, hf⟩ := bind2_w hf
      obtain ⟨σ55, eσ55, hf⟩ := letb_w hf
      have qσ55 : gP D cI cII 31 κ (xC cI cII κ σ55) = gP D cI cII 31 κ (xC cI cII κ σ53) := by rw [eσ55]; exact mrg_gP
      refine g_calli (f' := xC cI cII κ σ55) (by rw [qσ55]; exact (va_runV (As := [.int x7_48]) (rest := []) S (met_X3_region l D cI cII κ hκ31 σ_48 x7_48 v54 σ53 hq58) (cwV 1 S.2.2.2.2 gL_law_X3_region rfl rfl rfl (by decide +kernel) ⟨Nat.le_of_ble_eq_true rfl, Nat.le_of_ble_eq_true rfl⟩) (g_preV (N := 3) (T := TX3) hK hP (Nat.le_of_ble_eq_true rfl) (by decide) rfl rfl) rfl rfl hl.1 rfl (lv_room (Nat.le_of_ble_eq_true rfl)) dL_law_58 ⟨Nat.le_of_ble_eq_true rfl, Nat.le_of_ble_eq_true rfl⟩)) (Nat.le_of_ble_eq_true rfl) hκ hA hP hS (fun j h1 h2 => by rw [eσ55]; exact mrg_hi h1 h2) (fun H locs hP hS => ?_)
      obtain ⟨v56, ev56, hf⟩ := letb_w hf
      refine lv_nmi ev56 ?_
      refine lv_istore (lv' := [(8, .int v56), (0, .ref b), (1, .ref (κ 0)), (4, .int v4), (5, .int v8), (6, .int x6_48), (7, .int x7_48)]) hx hb dL_law_61 hl (by decide) rfl (fun ls hl => ?_)
      refine lv_aload_n hx hb dL_law_63 rfl (lv_at hl 2 rfl) ?_
      refine lv_iload hx hb dL_law_64 (lv_at hl 0 rfl) ?_
      obtain ⟨v58, σ57, hq66, hf⟩ := bind2_w hf
      obtain ⟨σ59, eσ59, hf⟩ := letb_w hf
      have qσ59 : gP D cI cII 31 κ (xC cI cII κ σ59) = gP D cI cII 31 κ (xC cI cII κ σ57) := by rw [eσ59]; exact mrg_gP
      refine g_calli (f' := xC cI cII κ σ59) (by rw [qσ59]; exact (va_runV (As := [.int v56]) (rest := []) S (met_X3_isRegion l D cI cII κ hκ31 σ55 v56 v58 σ57 hq66) (cwV 1 S.2.2.2.2 gL_law_X3_isRegion rfl rfl rfl (by decide +kernel) ⟨Nat.le_of_ble_eq_true rfl, Nat.le_of_ble_eq_true rfl⟩) (g_preV (N := 3) (T := TX3) hK hP (Nat.le_of_ble_eq_true rfl) (by decide) rfl rfl) rfl rfl hl.1 rfl (lv_room (Nat.le_of_ble_eq_true rfl)) dL_law_66 ⟨Nat.le_of_ble_eq_true rfl, Nat.le_of_ble_eq_true rfl⟩)) (Nat.le_of_ble_eq_true rfl) hκ hA hP hS (fun j h1 h2 => by rw [eσ59]; exact mrg_hi h1 h2) (fun H locs hP hS => ?_)
      obtain ⟨K115, hK115, hf⟩ := letb_w hf
      have J115 : ∀ (τ_115 : SX), K115 τ_115 = some (r, σ') → ∀ (H : Heap) (locs : List Loc) (ls : Array Slot), va_P D vwCl (gw 32 κ (xC cI cII κ τ_115)) H → va_S (A) s.heap H locs → lv_has ls 13 [] → W p l e room_1 s m args below meth c H locs 600130 7301080 Q (F0 m 115 ls []) := by
        intro τ_115 hf H locs ls hP hS hl
        rw [hK115] at hf
        refine lv_iconst (v := 0) hx hb dL_law_115 (by decide) ?_
        cases hf
      refine lv_if_eq (tgt := 115) hx hb dL_law_69 (by decide) (fun c69 => ?_) (fun c69 => ?_)
      · have hf := iteT c69 hf
        exact J115 _ hf _ _ _ hP hS (lv_sub hl [] rfl)
      · have hf := iteF c69 hf
        refine lv_aload_n hx hb dL_law_72 rfl (lv_at hl 2 rfl) ?_
        refine lv_iload hx hb dL_law_73 (lv_at hl 3 rfl) ?_
        refine lv_iload hx hb dL_law_75 (lv_at hl 0 rfl) ?_
        refine lv_iconst (v := -1) hx hb dL_law_77 (by decide) ?_
        refine lv_ixor hx hb dL_law_78 ?_
        refine lv_iand hx hb dL_law_79 ?_
        obtain ⟨v61, σ60, hq80, hf⟩ := bind2_w hf
        obtain ⟨σ62, eσ62, hf⟩ := letb_w hf
        have qσ62 : gP D cI cII 31 κ (xC cI cII κ σ62) = gP D cI cII 31 κ (xC cI cII κ σ60) := by rw [eσ62]; exact mrg_gP
        refine g_calli (f' := xC cI cII κ σ62) (by rw [qσ62]; exact (va_runV (As := [.int ((v4 &&& (v56 ^^^ (-1))))]) (rest := []) S (met_X3_isRegion l D cI cII κ hκ31 σ59 ((v4 &&& (v56 ^^^ (-1)))) v61 σ60 hq80) (cwV 1 S.2.2.2.2 gL_law_X3_isRegion rfl rfl rfl (by decide +kernel) ⟨Nat.le_of_ble_eq_true rfl, Nat.le_of_ble_eq_true rfl⟩) (g_preV (N := 3) (T := TX3) hK hP (Nat.le_of_ble_eq_true rfl) (by decide) rfl rfl) rfl rfl hl.1 rfl (lv_room (Nat.le_of_ble_eq_true rfl)) dL_law_80 ⟨Nat.le_of_ble_eq_true rfl, Nat.le_of_ble_eq_true rfl⟩)) (Nat.le_of_ble_eq_true rfl) hκ hA hP hS (fun j h1 h2 => by rw [eσ62]; exact mrg_hi h1 h2) (fun H locs hP hS => ?_)
        refine lv_if_eq (tgt := 115) hx hb dL_law_83 (by decide) (fun c83 => ?_) (fun c83 => ?_)
        · have hf := iteT c83 hf
          exact J115 _ hf _ _ _ hP hS (lv_sub hl [] rfl)
        · have hf := iteF c83 hf
          refine lv_iload hx hb dL_law_86 (lv_at hl 6 rfl) ?_
          obtain ⟨K104, hK104, hf⟩ := letb_w hf
          have J104 : ∀ (τ_104 : SX), K104 τ_104 = some (r, σ') → ∀ (H : Heap) (locs : List Loc) (ls : Array Slot), va_P D vwCl (gw 32 κ (xC cI cII κ τ_104)) H → va_S (A) s.heap H locs → lv_has ls 13 [(0, .ref b), (1, .ref (κ 0)), (4, .int v4), (5, .int v8), (6, .int x6_48), (7, .int x7_48), (8, .int v56)] → W p l e room_1 s m args below meth c H locs 600130 7301080 Q (F0 m 104 ls []) := by
            intro τ_104 hf H locs ls hP hS hl
            rw [hK104] at hf
            refine lv_aload_n hx hb dL_law_104 rfl (lv_at hl 1 rfl) ?_
            refine lv_iload hx hb dL_law_105 (lv_at hl 6 rfl) ?_
            obtain ⟨v64, σ63, hq107, hf⟩ := bind2_w hf
            obtain ⟨σ65, eσ65, hf⟩ := letb_w hf
            have qσ65 : gP D cI cII 31 κ (xC cI cII κ σ65) = gP D cI cII 31 κ (xC cI cII κ σ63) := by rw [eσ65]; exact mrg_gP
            refine g_calli (f' := xC cI cII κ σ65) (by rw [qσ65]; exact (va_runV (As := [.int v56]) (rest := []) S (met_X3_grow l D cI cII κ hκ31 τ_104 v56 v64 σ63 hq107) (cwV 1 S.2.2.2.2 gL_law_X3_grow rfl rfl rfl (by decide +kernel) ⟨Nat.le_of_ble_eq_true rfl, Nat.le_of_ble_eq_true rfl⟩) (g_preV (N := 3) (T := TX3) hK hP (Nat.le_of_ble_eq_true rfl) (by decide) rfl rfl) rfl rfl hl.1 rfl (lv_room (Nat.le_of_ble_eq_true rfl)) dL_law_107 ⟨Nat.le_of_ble_eq_true rfl, Nat.le_of_ble_eq_true rfl⟩)) (Nat.le_of_ble_eq_true rfl) hκ hA hP hS (fun j h1 h2 => by rw [eσ65]; exact mrg_hi h1 h2) (fun H locs hP hS => ?_)
            refine lv_iload hx hb dL_law_110 (lv_at hl 6 rfl) ?_
            refine lv_icmp_eq (tgt := 117) hx hb dL_law_112 (by decide) (fun c112 => ?_) (fun c112 => ?_)
            · have hf := iteT c112 hf
              refine lv_iconst (v := 0) hx hb dL_law_117 (by decide) ?_
              obtain ⟨v66, ev66, hf⟩ := letb_w hf
              refine lv_nmi ev66 ?_
              refine lv_istore (lv' := [(9, .int v66), (0, .ref b), (1, .ref (κ 0)), (4, .int v4), (5, .int v8), (6, .int x6_48), (7, .int x7_48), (8, .int v56)]) hx hb dL_law_118 hl (by decide) rfl (fun ls hl => ?_)
              refine loopF_w (P := fun (g : Int32 → SX → Option (Int32 × SX)) => ∀ (x9_120 : Int32) (σ_120 : SX), g x9_120 σ_120 = some (r, σ') → ∀ (H : Heap) (locs : List Loc) (ls : Array Slot), va_P D vwCl (gw 32 κ (xC cI cII κ σ_120)) H → va_S (A) s.heap H locs → lv_has ls 13 [(0, .ref b), (1, .ref (κ 0)), (4, .int v4), (5, .int v8), (6, .int x6_48), (7, .int x7_48), (8, .int v56), (9, .int x9_120)] → W p l e room_1 s m args below meth c H locs 600130 7301080 Q (F0 m 120 ls [])) (fun _ _ h => by simp at h) ?_ FU _ _ hf _ _ _ hP hS (lv_sub hl [1, 2, 3, 4, 5, 6, 7, 0] rfl)
              intro rec120 ih120 x9_120 σ_120 hf H locs ls hP hS hl
              unfold bd_L_law_120 at hf
              refine lv_iload hx hb dL_law_120 (lv_at hl 7 rfl) ?_
              refine lv_bipush (v := 6) hx hb dL_law_122 (by decide) ?_
              refine lv_icmp_ge (tgt := 184) hx hb dL_law_124 (by decide) (fun c124 => ?_) (fun c124 => ?_)
              · have hf := iteT c124 hf
                refine lv_iload hx hb dL_law_184 (lv_at hl 4 rfl) ?_
                refine lv_aload_n hx hb dL_law_186 rfl (lv_at hl 1 rfl) ?_
                refine lv_iload hx hb dL_law_187 (lv_at hl 5 rfl) ?_
                obtain ⟨v68, σ67, hq189, hf⟩ := bind2_w hf
                obtain ⟨σ69, eσ69, hf⟩ := letb_w hf
                have qσ69 : gP D cI cII 31 κ (xC cI cII κ σ69) = gP D cI cII 31 κ (xC cI cII κ σ67) := by rw [eσ69]; exact mrg_gP
                refine g_calli (f' := xC cI cII κ σ69) (by rw [qσ69]; exact (va_runV (As := [.int x7_48]) (rest := [.int x6_48]) S (met_X3_isLeast l D cI cII κ hκ31 σ_120 x7_48 v68 σ67 hq189) (cwV 1 S.2.2.2.2 gL_law_X3_isLeast rfl rfl rfl (by decide +kernel) ⟨Nat.le_of_ble_eq_true rfl, Nat.le_of_ble_eq_true rfl⟩) (g_preV (N := 3) (T := TX3) hK hP (Nat.le_of_ble_eq_true rfl) (by decide) rfl rfl) rfl rfl hl.1 rfl (lv_room (Nat.le_of_ble_eq_true rfl)) dL_law_189 ⟨Nat.le_of_ble_eq_true rfl, Nat.le_of_ble_eq_true rfl⟩)) (Nat.le_of_ble_eq_true rfl) hκ hA hP hS (fun j h1 h2 => by rw [eσ69]; exact mrg_hi h1 h2) (fun H locs hP hS => ?_)
                obtain ⟨K200, hK200, hf⟩ := letb_w hf
                have J200 : ∀ (z1_200 : Int32), K200 z1_200 = some (r, σ') → ∀ (H : Heap) (locs : List Loc) (ls : Array Slot), va_P D vwCl (gw 32 κ (xC cI cII κ σ69)) H → va_S (A) s.heap H locs → lv_has ls 13 [(0, .ref b), (1, .ref (κ 0)), (4, .int v4), (5, .int v8), (7, .int x7_48), (8, .int v56)] → W p l e room_1 s m args below meth c H locs 600130 7301080 Q (F0 m 200 ls [.int z1_200, .int x6_48]) := by
                  intro z1_200 hf H locs ls hP hS hl
                  rw [hK200] at hf
                  refine lv_iadd hx hb dL_law_200 ?_
                  obtain ⟨v70, ev70, hf⟩ := letb_w hf
                  refine lv_nmi ev70 ?_
                  refine lv_istore (lv' := [(6, .int v70), (0, .ref b), (1, .ref (κ 0)), (4, .int v4), (5, .int v8), (7, .int x7_48), (8, .int v56)]) hx hb dL_law_201 hl (by decide) rfl (fun ls hl => ?_)
                  refine lv_iload hx hb dL_law_203 (lv_at hl 6 rfl) ?_
                  obtain ⟨v71, ev71, hf⟩ := letb_w hf
                  refine lv_nmi ev71 ?_
                  refine lv_istore (lv' := [(9, .int v71), (6, .int v70), (0, .ref b), (1, .ref (κ 0)), (4, .int v4), (5, .int v8), (7, .int x7_48), (8, .int v56)]) hx hb dL_law_205 hl (by decide) rfl (fun ls hl => ?_)
                  refine lv_iconst (v := 0) hx hb dL_law_207 (by decide) ?_
                  obtain ⟨v72, ev72, hf⟩ := letb_w hf
                  refine lv_nmi ev72 ?_
                  refine lv_istore (lv' := [(10, .int v72), (9, .int v71), (6, .int v70), (0, .ref b), (1, .ref (κ 0)), (4, .int v4), (5, .int v8), (7, .int x7_48), (8, .int v56)]) hx hb dL_law_208 hl (by decide) rfl (fun ls hl => ?_)
                  refine loopF_w (P := fun (g : Int32 → Int32 → SX → Option (Int32 × SX)) => ∀ (x9_210 : Int32) (x10_210 : Int32) (σ_210 : SX), g x9_210 x10_210 σ_210 = some (r, σ') → ∀ (H : Heap) (locs : List Loc) (ls : Array Slot), va_P D vwCl (gw 32 κ (xC cI cII κ σ_210)) H → va_S (A) s.heap H locs → lv_has ls 13 [(0, .ref b), (1, .ref (κ 0)), (4, .int v4), (5, .int v8), (6, .int v70), (7, .int x7_48), (9, .int x9_210), (10, .int x10_210)] → W p l e room_1 s m args below meth c H locs 600130 7301080 Q (F0 m 210 ls [])) (fun _ _ _ h => by simp at h) ?_ FU _ _ _ hf _ _ _ hP hS (lv_sub hl [3, 4, 5, 6, 2, 7, 1, 0] rfl)
                  intro rec210 ih210 x9_210 x10_210 σ_210 hf H locs ls hP hS hl
                  unfold bd_L_law_210 at hf
                  refine lv_iload hx hb dL_law_210 (lv_at hl 7 rfl) ?_
                  refine lv_iload hx hb dL_law_212 (lv_at hl 3 rfl) ?_
                  refine lv_icmp_ge (tgt := 259) hx hb dL_law_214 (by decide) (fun c214 => ?_) (fun c214 => ?_)
                  · have hf := iteT c214 hf
                    refine lv_iload hx hb dL_law_259 (lv_at hl 6 rfl) ?_
                    refine lv_if_eq (tgt := 266) hx hb dL_law_261 (by decide) (fun c261 => ?_) (fun c261 => ?_)
                    · have hf := iteT c261 hf
                      obtain ⟨v73, ev73, hf⟩ := letb_w hf
                      refine lv_iinc (v := v73) (lv' := [(7, .int v73), (0, .ref b), (1, .ref (κ 0)), (4, .int v4), (5, .int v8), (6, .int v70), (9, .int x9_210), (10, .int x10_210)]) hx hb dL_law_266 hl (k := 5) rfl (by rw [ev73]; rfl) (by decide) rfl (fun ls hl => ?_)
                      refine lv_goto (tgt := 48) hx hb dL_law_269 (by decide) ?_
                      exact ih48 _ _ _ hf _ _ _ hP hS (lv_sub hl [1, 2, 3, 4, 5, 0] rfl)
                    · have hf := iteF c261 hf
                      refine lv_iconst (v := 0) hx hb dL_law_264 (by decide) ?_
                      cases hf
                  · have hf := iteF c214 hf
                    refine lv_aload_n hx hb dL_law_217 rfl (lv_at hl 1 rfl) ?_
                    refine lv_iload hx hb dL_law_218 (lv_at hl 7 rfl) ?_
                    obtain ⟨v75, σ74, hq220, hf⟩ := bind2_w hf
                    obtain ⟨σ76, eσ76, hf⟩ := letb_w hf
                    have qσ76 : gP D cI cII 31 κ (xC cI cII κ σ76) = gP D cI cII 31 κ (xC cI cII κ σ74) := by rw [eσ76]; exact mrg_gP
                    refine g_calli (f' := xC cI cII κ σ76) (by rw [qσ76]; exact (va_runV (As := [.int x10_210]) (rest := []) S (met_X3_isLeast l D cI cII κ hκ31 σ_210 x10_210 v75 σ74 hq220) (cwV 1 S.2.2.2.2 gL_law_X3_isLeast rfl rfl rfl (by decide +kernel) ⟨Nat.le_of_ble_eq_true rfl, Nat.le_of_ble_eq_true rfl⟩) (g_preV (N := 3) (T := TX3) hK hP (Nat.le_of_ble_eq_true rfl) (by decide) rfl rfl) rfl rfl hl.1 rfl (lv_room (Nat.le_of_ble_eq_true rfl)) dL_law_220 ⟨Nat.le_of_ble_eq_true rfl, Nat.le_of_ble_eq_true rfl⟩)) (Nat.le_of_ble_eq_true rfl) hκ hA hP hS (fun j h1 h2 => by rw [eσ76]; exact mrg_hi h1 h2) (fun H locs hP hS => ?_)
                    obtain ⟨K253, hK253, hf⟩ := letb_w hf
                    have J253 : ∀ (y9_253 : Int32) (τ_253 : SX), K253 y9_253 τ_253 = some (r, σ') → ∀ (H : Heap) (locs : List Loc) (ls : Array Slot), va_P D vwCl (gw 32 κ (xC cI cII κ τ_253)) H → va_S (A) s.heap H locs → lv_has ls 13 [(0, .ref b), (1, .ref (κ 0)), (4, .int v4), (5, .int v8), (6, .int v70), (7, .int x7_48), (9, .int y9_253), (10, .int x10_210)] → W p l e room_1 s m args below meth c H locs 600130 7301080 Q (F0 m 253 ls []) := by
                      intro y9_253 τ_253 hf H locs ls hP hS hl
                      rw [hK253] at hf
                      obtain ⟨v77, ev77, hf⟩ := letb_w hf
                      refine lv_iinc (v := v77) (lv' := [(10, .int v77), (0, .ref b), (1, .ref (κ 0)), (4, .int v4), (5, .int v8), (6, .int v70), (7, .int x7_48), (9, .int y9_253)]) hx hb dL_law_253 hl (k := 7) rfl (by rw [ev77]; rfl) (by decide) rfl (fun ls hl => ?_)
                      refine lv_goto (tgt := 210) hx hb dL_law_256 (by decide) ?_
                      exact ih210 _ _ _ hf _ _ _ hP hS (lv_sub hl [1, 2, 3, 4, 5, 6, 7, 0] rfl)
                    refine lv_if_eq (tgt := 253) hx hb dL_law_223 (by decide) (fun c223 => ?_) (fun c223 => ?_)
                    · have hf := iteT c223 hf
                      exact J253 _ _ hf _ _ _ hP hS (lv_sub hl [0, 1, 2, 3, 4, 5, 6, 7] rfl)
                    · have hf := iteF c223 hf
                      refine lv_aload_n hx hb dL_law_226 rfl (lv_at hl 1 rfl) ?_
                      refine lv_iload hx hb dL_law_227 (lv_at hl 7 rfl) ?_
                      obtain ⟨v79, σ78, hq229, hf⟩ := bind2_w hf
                      obtain ⟨σ80, eσ80, hf⟩ := letb_w hf
                      have qσ80 : gP D cI cII 31 κ (xC cI cII κ σ80) = gP D cI cII 31 κ (xC cI cII κ σ78) := by rw [eσ80]; exact mrg_gP
                      refine g_calli (f' := xC cI cII κ σ80) (by rw [qσ80]; exact (va_runV (As := [.int x10_210]) (rest := []) S (met_X3_region l D cI cII κ hκ31 σ76 x10_210 v79 σ78 hq229) (cwV 1 S.2.2.2.2 gL_law_X3_region rfl rfl rfl (by decide +kernel) ⟨Nat.le_of_ble_eq_true rfl, Nat.le_of_ble_eq_true rfl⟩) (g_preV (N := 3) (T := TX3) hK hP (Nat.le_of_ble_eq_true rfl) (by decide) rfl rfl) rfl rfl hl.1 rfl (lv_room (Nat.le_of_ble_eq_true rfl)) dL_law_229 ⟨Nat.le_of_ble_eq_true rfl, Nat.le_of_ble_eq_true rfl⟩)) (Nat.le_of_ble_eq_true rfl) hκ hA hP hS (fun j h1 h2 => by rw [eσ80]; exact mrg_hi h1 h2) (fun H locs hP hS => ?_)
                      refine lv_iload hx hb dL_law_232 (lv_at hl 6 rfl) ?_
                      refine lv_iconst (v := -1) hx hb dL_law_234 (by decide) ?_
                      refine lv_ixor hx hb dL_law_235 ?_
                      refine lv_iand hx hb dL_law_236 ?_
                      refine lv_if_ne (tgt := 253) hx hb dL_law_237 (by decide) (fun c237 => ?_) (fun c237 => ?_)
                      · have hf := iteT c237 hf
                        exact J253 _ _ hf _ _ _ hP hS (lv_sub hl [0, 1, 2, 3, 4, 5, 6, 7] rfl)
                      · have hf := iteN c237 hf
                        refine lv_iload hx hb dL_law_240 (lv_at hl 6 rfl) ?_
                        refine lv_aload_n hx hb dL_law_242 rfl (lv_at hl 1 rfl) ?_
                        refine lv_iload hx hb dL_law_243 (lv_at hl 7 rfl) ?_
                        obtain ⟨v82, σ81, hq245, hf⟩ := bind2_w hf
                        obtain ⟨σ83, eσ83, hf⟩ := letb_w hf
                        have qσ83 : gP D cI cII 31 κ (xC cI cII κ σ83) = gP D cI cII 31 κ (xC cI cII κ σ81) := by rw [eσ83]; exact mrg_gP
                        refine g_calli (f' := xC cI cII κ σ83) (by rw [qσ83]; exact (va_runV (As := [.int x10_210]) (rest := [.int x9_210]) S (met_X3_region l D cI cII κ hκ31 σ80 x10_210 v82 σ81 hq245) (cwV 1 S.2.2.2.2 gL_law_X3_region rfl rfl rfl (by decide +kernel) ⟨Nat.le_of_ble_eq_true rfl, Nat.le_of_ble_eq_true rfl⟩) (g_preV (N := 3) (T := TX3) hK hP (Nat.le_of_ble_eq_true rfl) (by decide) rfl rfl) rfl rfl hl.1 rfl (lv_room (Nat.le_of_ble_eq_true rfl)) dL_law_245 ⟨Nat.le_of_ble_eq_true rfl, Nat.le_of_ble_eq_true rfl⟩)) (Nat.le_of_ble_eq_true rfl) hκ hA hP hS (fun j h1 h2 => by rw [eσ83]; exact mrg_hi h1 h2) (fun H locs hP hS => ?_)
                        refine lv_iconst (v := -1) hx hb dL_law_248 (by decide) ?_
                        refine lv_ixor hx hb dL_law_249 ?_
                        refine lv_iand hx hb dL_law_250 ?_
                        obtain ⟨v84, ev84, hf⟩ := letb_w hf
                        refine lv_nmi ev84 ?_
                        refine lv_istore (lv' := [(9, .int v84), (0, .ref b), (1, .ref (κ 0)), (4, .int v4), (5, .int v8), (6, .int v70), (7, .int x7_48), (10, .int x10_210)]) hx hb dL_law_251 hl (by decide) rfl (fun ls hl => ?_)
                        exact J253 _ _ hf _ _ _ hP hS (lv_sub hl [1, 2, 3, 4, 5, 6, 0, 7] rfl)
                refine lv_if_eq (tgt := 199) hx hb dL_law_192 (by decide) (fun c192 => ?_) (fun c192 => ?_)
                · have hf := iteT c192 hf
                  refine lv_iconst (v := 0) hx hb dL_law_199 (by decide) ?_
                  exact J200 _ hf _ _ _ hP hS (lv_sub hl [0, 1, 2, 3, 5, 6] rfl)
                · have hf := iteF c192 hf
                  refine lv_iconst (v := 1) hx hb dL_law_195 (by decide) ?_
                  refine lv_goto (tgt := 200) hx hb dL_law_196 (by decide) ?_
                  exact J200 _ hf _ _ _ hP hS (lv_sub hl [0, 1, 2, 3, 5, 6] rfl)
              · have hf := iteF c124 hf
                refine lv_aload_n hx hb dL_law_127 rfl (lv_at hl 1 rfl) ?_
                refine lv_iload hx hb dL_law_128 (lv_at hl 6 rfl) ?_
                refine lv_iload hx hb dL_law_130 (lv_at hl 7 rfl) ?_
                obtain ⟨v86, σ85, hq132, hf⟩ := bind2_w hf
                obtain ⟨σ87, eσ87, hf⟩ := letb_w hf
                have qσ87 : gP D cI cII 31 κ (xC cI cII κ σ87) = gP D cI cII 31 κ (xC cI cII κ σ85) := by rw [eσ87]; exact mrg_gP
                refine g_calli (f' := xC cI cII κ σ87) (by rw [qσ87]; exact (va_runV (As := [.int v56, .int x9_120]) (rest := []) S (met_X3_crossing l D cI cII κ hκ31 σ_120 v56 x9_120 v86 σ85 hq132) (cwV 2 S.2.2.2.2 gL_law_X3_crossing rfl rfl rfl (by decide +kernel) ⟨Nat.le_of_ble_eq_true rfl, Nat.le_of_ble_eq_true rfl⟩) (g_preV (N := 3) (T := TX3) hK hP (Nat.le_of_ble_eq_true rfl) (by decide) rfl rfl) rfl rfl hl.1 rfl (lv_room (Nat.le_of_ble_eq_true rfl)) dL_law_132 ⟨Nat.le_of_ble_eq_true rfl, Nat.le_of_ble_eq_true rfl⟩)) (Nat.le_of_ble_eq_true rfl) hκ hA hP hS (fun j h1 h2 => by rw [eσ87]; exact mrg_hi h1 h2) (fun H locs hP hS => ?_)
                obtain ⟨v88, ev88, hf⟩ := letb_w hf
                refine lv_nmi ev88 ?_
                refine lv_istore (lv' := [(10, .int v88), (0, .ref b), (1, .ref (κ 0)), (4, .int v4), (5, .int v8), (6, .int x6_48), (7, .int x7_48), (8, .int v56), (9, .int x9_120)]) hx hb dL_law_135 hl (by decide) rfl (fun ls hl => ?_)
                refine lv_aload_n hx hb dL_law_137 rfl (lv_at hl 2 rfl) ?_
                refine lv_iload hx hb dL_law_138 (lv_at hl 3 rfl) ?_
                refine lv_iload hx hb dL_law_140 (lv_at hl 7 rfl) ?_
                refine lv_iconst (v := -1) hx hb dL_law_142 (by decide) ?_
                refine lv_ixor hx hb dL_law_143 ?_
                refine lv_iand hx hb dL_law_144 ?_
                refine lv_iload hx hb dL_law_145 (lv_at hl 8 rfl) ?_
                obtain ⟨v90, σ89, hq147, hf⟩ := bind2_w hf
                obtain ⟨σ91, eσ91, hf⟩ := letb_w hf
                have qσ91 : gP D cI cII 31 κ (xC cI cII κ σ91) = gP D cI cII 31 κ (xC cI cII κ σ89) := by rw [eσ91]; exact mrg_gP
                refine g_calli (f' := xC cI cII κ σ91) (by rw [qσ91]; exact (va_runV (As := [.int ((v4 &&& (v56 ^^^ (-1)))), .int x9_120]) (rest := []) S (met_X3_crossing l D cI cII κ hκ31 σ87 ((v4 &&& (v56 ^^^ (-1)))) x9_120 v90 σ89 hq147) (cwV 2 S.2.2.2.2 gL_law_X3_crossing rfl rfl rfl (by decide +kernel) ⟨Nat.le_of_ble_eq_true rfl, Nat.le_of_ble_eq_true rfl⟩) (g_preV (N := 3) (T := TX3) hK hP (Nat.le_of_ble_eq_true rfl) (by decide) rfl rfl) rfl rfl hl.1 rfl (lv_room (Nat.le_of_ble_eq_true rfl)) dL_law_147 ⟨Nat.le_of_ble_eq_true rfl, Nat.le_of_ble_eq_true rfl⟩)) (Nat.le_of_ble_eq_true rfl) hκ hA hP hS (fun j h1 h2 => by rw [eσ91]; exact mrg_hi h1 h2) (fun H locs hP hS => ?_)
                obtain ⟨v92, ev92, hf⟩ := letb_w hf
                refine lv_nmi ev92 ?_
                refine lv_istore (lv' := [(11, .int v92), (10, .int v88), (0, .ref b), (1, .ref (κ 0)), (4, .int v4), (5, .int v8), (6, .int x6_48), (7, .int x7_48), (8, .int v56), (9, .int x9_120)]) hx hb dL_law_150 hl (by decide) rfl (fun ls hl => ?_)
                refine lv_iload hx hb dL_law_152 (lv_at hl 1 rfl) ?_
                refine lv_iconst (v := 3) hx hb dL_law_154 (by decide) ?_
                obtain ⟨K176, hK176, hf⟩ := letb_w hf
                have J176 : ∀ (_u : Unit), K176 _u = some (r, σ') → ∀ (H : Heap) (locs : List Loc) (ls : Array Slot), va_P D vwCl (gw 32 κ (xC cI cII κ σ91)) H → va_S (A) s.heap H locs → lv_has ls 13 [] → W p l e room_1 s m args below meth c H locs 600130 7301080 Q (F0 m 176 ls []) := by
                  intro _u hf H locs ls hP hS hl
                  rw [hK176] at hf
                  refine lv_iconst (v := 0) hx hb dL_law_176 (by decide) ?_
                  cases hf
                refine lv_icmp_eq (tgt := 176) hx hb dL_law_155 (by decide) (fun c155 => ?_) (fun c155 => ?_)
                · have hf := iteT c155 hf
                  exact J176 _ hf _ _ _ hP hS (lv_sub hl [] rfl)
                · have hf := iteF c155 hf
                  refine lv_iload hx hb dL_law_158 (lv_at hl 0 rfl) ?_
                  refine lv_iload hx hb dL_law_160 (lv_at hl 1 rfl) ?_
                  obtain ⟨K173, hK173, hf⟩ := letb_w hf
                  have J173 : ∀ (z1_173 : Int32), K173 z1_173 = some (r, σ') → ∀ (H : Heap) (locs : List Loc) (ls : Array Slot), va_P D vwCl (gw 32 κ (xC cI cII κ σ91)) H → va_S (A) s.heap H locs → lv_has ls 13 [(0, .ref b), (1, .ref (κ 0)), (4, .int v4), (5, .int v8), (6, .int x6_48), (7, .int x7_48), (8, .int v56), (9, .int x9_120)] → W p l e room_1 s m args below meth c H locs 600130 7301080 Q (F0 m 173 ls [.int z1_173, .int v92]) := by
                    intro z1_173 hf H locs ls hP hS hl
                    rw [hK173] at hf
                    refine lv_icmp_eq (tgt := 178) hx hb dL_law_173 (by decide) (fun c173 => ?_) (fun c173 => ?_)
                    · have hf := iteT c173 hf
                      obtain ⟨v93, ev93, hf⟩ := letb_w hf
                      refine lv_iinc (v := v93) (lv' := [(9, .int v93), (0, .ref b), (1, .ref (κ 0)), (4, .int v4), (5, .int v8), (6, .int x6_48), (7, .int x7_48), (8, .int v56)]) hx hb dL_law_178 hl (k := 7) rfl (by rw [ev93]; rfl) (by decide) rfl (fun ls hl => ?_)
                      refine lv_goto (tgt := 120) hx hb dL_law_181 (by decide) ?_
                      exact ih120 _ _ hf _ _ _ hP hS (lv_sub hl [1, 2, 3, 4, 5, 6, 7, 0] rfl)
                    · have hf := iteF c173 hf
                      exact J176 _ hf _ _ _ hP hS (lv_sub hl [] rfl)
                  refine lv_if_ne (tgt := 169) hx hb dL_law_162 (by decide) (fun c162 => ?_) (fun c162 => ?_)
                  · have hf := iteT c162 hf
                    refine lv_iconst (v := 3) hx hb dL_law_169 (by decide) ?_
                    refine lv_iload hx hb dL_law_170 (lv_at hl 1 rfl) ?_
                    refine lv_isub hx hb dL_law_172 ?_
                    exact J173 _ hf _ _ _ hP hS (lv_sub hl [2, 3, 4, 5, 6, 7, 8, 9] rfl)
                  · have hf := iteN c162 hf
                    refine lv_iconst (v := 0) hx hb dL_law_165 (by decide) ?_
                    refine lv_goto (tgt := 173) hx hb dL_law_166 (by decide) ?_
                    exact J173 _ hf _ _ _ hP hS (lv_sub hl [2, 3, 4, 5, 6, 7, 8, 9] rfl)
            · have hf := iteF c112 hf
              exact J115 _ hf _ _ _ hP hS (lv_sub hl [] rfl)
          refine lv_if_le (tgt := 104) hx hb dL_law_88 (by decide) (fun c88 => ?_) (fun c88 => ?_)
          · have hf := iteT c88 hf
            exact J104 _ hf _ _ _ hP hS (lv_sub hl [1, 2, 3, 4, 5, 6, 0] rfl)
          · have hf := iteF c88 hf
            refine lv_iload hx hb dL_law_91 (lv_at hl 0 rfl) ?_
            refine lv_aload_n hx hb dL_law_93 rfl (lv_at hl 2 rfl) ?_
            refine lv_iload hx hb dL_law_94 (lv_at hl 6 rfl) ?_
            refine lv_iconst (v := 1) hx hb dL_law_96 (by decide) ?_
            refine lv_isub hx hb dL_law_97 ?_
            obtain ⟨v95, σ94, hq98, hf⟩ := bind2_w hf
            obtain ⟨σ96, eσ96, hf⟩ := letb_w hf
            have qσ96 : gP D cI cII 31 κ (xC cI cII κ σ96) = gP D cI cII 31 κ (xC cI cII κ σ94) := by rw [eσ96]; exact mrg_gP
            refine g_calli (f' := xC cI cII κ σ96) (by rw [qσ96]; exact (va_runV (As := [.int ((x7_48 - 1))]) (rest := [.int v56]) S (met_X3_region l D cI cII κ hκ31 σ62 ((x7_48 - 1)) v95 σ94 hq98) (cwV 1 S.2.2.2.2 gL_law_X3_region rfl rfl rfl (by decide +kernel) ⟨Nat.le_of_ble_eq_true rfl, Nat.le_of_ble_eq_true rfl⟩) (g_preV (N := 3) (T := TX3) hK hP (Nat.le_of_ble_eq_true rfl) (by decide) rfl rfl) rfl rfl hl.1 rfl (lv_room (Nat.le_of_ble_eq_true rfl)) dL_law_98 ⟨Nat.le_of_ble_eq_true rfl, Nat.le_of_ble_eq_true rfl⟩)) (Nat.le_of_ble_eq_true rfl) hκ hA hP hS (fun j h1 h2 => by rw [eσ96]; exact mrg_hi h1 h2) (fun H locs hP hS => ?_)
            refine lv_icmp_le (tgt := 115) hx hb dL_law_101 (by decide) (fun c101 => ?_) (fun c101 => ?_)
            · have hf := iteT c101 hf
              exact J115 _ hf _ _ _ hP hS (lv_sub hl [] rfl)
            · have hf := iteF c101 hf
              exact J104 _ hf _ _ _ hP hS (lv_sub hl [1, 2, 3, 4, 5, 6, 0] rfl)
  · have hf := iteF c24 hf
    refine lv_iconst (v := 0) hx hb dL_law_27 (by decide) ?_
    cases hf
