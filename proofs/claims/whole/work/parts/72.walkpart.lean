/-! by wip/whole/gen.py: walks of loops behind news -/
set_option maxRecDepth 100000 in
set_option maxHeartbeats 4000000 in
theorem wk_X2_init {p : Program} {l : Launch} {e : Env} {R : Room} {s : State} {m : MethodId} {args : Array Value} {below : List Frame} {meth : Method} {c : Code} {H : Heap} {locs : List Loc} {cells slots : Nat} {Q : State → Prop} {ls : Array Slot} {A : Nat → Prop} {D : va_G} {cI cII : ClassId} {κ : Nat → Nat} {σ σ' : SX} (hκ : Inj 23 κ) (S : CallFix p m c cX2_init 3 s args wsX2_init RX2)
    (hK : KX D cI cII s) (hP : va_P D vwCl (gw 23 κ (sC cI cII κ σ)) H) (hA : ∀ k, k < 23 → A (κ k)) (hS : va_S A s.heap H locs) (hl : lv_has ls 3 [(0, .ref (κ 0))]) (hf : fw_X2_init σ = some σ')
    (kk : ∀ (H : Heap) (locs : List Loc) (ls : Array Slot) , va_P D vwCl (gw 23 κ (sC cI cII κ σ')) H → va_S A s.heap H locs → W p l e R s m args below meth c H locs cells slots Q (F0 m 90 ls [])) : W p l e R s m args below meth c H locs cells slots Q (F0 m 53 ls []) := by
  obtain ⟨hx, hb, hml, hown, hts⟩ := id S
  have hiX2 : ∀ w ∈ u_ws RX2 TX2 5, w ∈ wsX2_init := by decide +kernel
  unfold fw_X2_init at hf
  refine lv_iconst (v := 0) hx hb dX2_init_53 (by decide) ?_
  obtain ⟨v1, ev1, hf⟩ := letb_w hf
  refine lv_nmi ev1 ?_
  refine lv_istore_n (lv' := [(1, .int v1), (0, .ref (κ 0))]) hx hb dX2_init_54 rfl hl (by decide) rfl (fun ls hl => ?_)
  refine loopF_w (P := fun (g : Int32 → SX → Option (SX)) => ∀ (x1_55 : Int32) (σ_55 : SX), g x1_55 σ_55 = some σ' → ∀ (H : Heap) (locs : List Loc) (ls : Array Slot), va_P D vwCl (gw 23 κ (sC cI cII κ σ_55)) H → va_S (A) s.heap H locs → lv_has ls 3 [(0, .ref (κ 0)), (1, .int x1_55)] → W p l e R s m args below meth c H locs cells slots Q (F0 m 55 ls [])) (fun _ _ h => by simp at h) ?_ FU _ _ hf _ _ _ hP hS (lv_sub hl [1, 0] rfl)
  intro rec55 ih55 x1_55 σ_55 hf H locs ls hP hS hl
  unfold bd_X2_init_55 at hf
  refine lv_iload_n hx hb dX2_init_55 rfl (lv_at hl 1 rfl) ?_
  refine lv_bipush (v := 6) hx hb dX2_init_56 (by decide) ?_
  refine lv_icmp_ge (tgt := 90) hx hb dX2_init_58 (by decide) (fun c58 => ?_) (fun c58 => ?_)
  · have hf := iteT c58 hf
    obtain rfl := Option.some.inj hf
    exact kk _ _ _ hP hS
  · have hf := iteF c58 hf
    refine lv_iconst (v := 0) hx hb dX2_init_61 (by decide) ?_
    obtain ⟨v2, ev2, hf⟩ := letb_w hf
    refine lv_nmi ev2 ?_
    refine lv_istore_n (lv' := [(2, .int v2), (0, .ref (κ 0)), (1, .int x1_55)]) hx hb dX2_init_62 rfl hl (by decide) rfl (fun ls hl => ?_)
    refine loopF_w (P := fun (g : Int32 → SX → Option (SX)) => ∀ (x2_63 : Int32) (σ_63 : SX), g x2_63 σ_63 = some σ' → ∀ (H : Heap) (locs : List Loc) (ls : Array Slot), va_P D vwCl (gw 23 κ (sC cI cII κ σ_63)) H → va_S (A) s.heap H locs → lv_has ls 3 [(0, .ref (κ 0)), (1, .int x1_55), (2, .int x2_63)] → W p l e R s m args below meth c H locs cells slots Q (F0 m 63 ls [])) (fun _ _ h => by simp at h) ?_ FU _ _ hf _ _ _ hP hS (lv_sub hl [1, 2, 0] rfl)
    intro rec63 ih63 x2_63 σ_63 hf H locs ls hP hS hl
    unfold bd_X2_init_63 at hf
    refine lv_iload_n hx hb dX2_init_63 rfl (lv_at hl 2 rfl) ?_
    refine lv_bipush (v := 12) hx hb dX2_init_64 (by decide) ?_
    refine lv_icmp_ge (tgt := 84) hx hb dX2_init_66 (by decide) (fun c66 => ?_) (fun c66 => ?_)
    · have hf := iteT c66 hf
      obtain ⟨v3, ev3, hf⟩ := letb_w hf
      refine lv_iinc (v := v3) (lv' := [(1, .int v3), (0, .ref (κ 0)), (2, .int x2_63)]) hx hb dX2_init_84 hl (k := 1) rfl (by rw [ev3]; rfl) (by decide) rfl (fun ls hl => ?_)
      refine lv_goto (tgt := 55) hx hb dX2_init_87 (by decide) ?_
      exact ih55 _ _ hf _ _ _ hP hS (lv_sub hl [1, 0] rfl)
    · have hf := iteF c66 hf
      refine lv_aload_n hx hb dX2_init_69 rfl (lv_at hl 0 rfl) ?_
      refine g_get (q := 0) (ci := 2) (k := 1) (ref := RX2) (C := RX2) (T := TX2) (N := 5) (index := 17) (v := .ref (κ 1)) S hK hP hiX2 (by decide) rfl rfl (by decide) rfl (by decide +kernel) rfl dX2_init_70 ?_
      refine lv_iload_n hx hb dX2_init_73 rfl (lv_at hl 1 rfl) ?_
      obtain ⟨r4, hr4, hf⟩ := obw hf
      have br4 : r4 < 6 := (arow_w hr4).2.2
      refine g_aald (q := 1) (b := 2) S hK hP (by decide) rfl hr4 dX2_init_74 ?_
      refine lv_iload_n hx hb dX2_init_75 rfl (lv_at hl 2 rfl) ?_
      refine lv_iconst (v := -1) hx hb dX2_init_76 (by decide) ?_
      obtain ⟨σ5, hσ5, hf⟩ := obw hf
      refine g_ast (a := (2 + r4)) (len := 12) (f' := (sC cI cII κ σ5)) S hK hP hκ hA hS (by omega) (sC_arr (by omega) (sLen2 br4)) hσ5 (fun j _ => sC_as hσ5 (by omega) (sLen2 br4) j) dX2_init_77 (fun H locs hP hS => ?_)
      obtain ⟨v6, ev6, hf⟩ := letb_w hf
      refine lv_iinc (v := v6) (lv' := [(2, .int v6), (0, .ref (κ 0)), (1, .int x1_55)]) hx hb dX2_init_78 hl (k := 2) rfl (by rw [ev6]; rfl) (by decide) rfl (fun ls hl => ?_)
      refine lv_goto (tgt := 63) hx hb dX2_init_81 (by decide) ?_
      exact ih63 _ _ hf _ _ _ hP hS (lv_sub hl [1, 2, 0] rfl)

set_option maxRecDepth 100000 in
set_option maxHeartbeats 4000000 in
theorem wk_X4_init {p : Program} {l : Launch} {e : Env} {R : Room} {s : State} {m : MethodId} {args : Array Value} {below : List Frame} {meth : Method} {c : Code} {H : Heap} {locs : List Loc} {cells slots : Nat} {Q : State → Prop} {ls : Array Slot} {A : Nat → Prop} {D : va_G} {cI cII : ClassId} {κ : Nat → Nat} {σ σ' : SX} (hκ : Inj 5 κ) (S : CallFix p m c cX4_init 2 s args wsX4_init RX4)
    (hK : KX D cI cII s) (hP : va_P D vwCl (gw 5 κ (mC cI cII κ σ)) H) (hA : ∀ k, k < 5 → A (κ k)) (hS : va_S A s.heap H locs) (hl : lv_has ls 2 [(0, .ref (κ 0))]) (hf : fw_X4_init σ = some σ')
    (kk : ∀ (H : Heap) (locs : List Loc) (ls : Array Slot) , va_P D vwCl (gw 5 κ (mC cI cII κ σ')) H → va_S A s.heap H locs → W p l e R s m args below meth c H locs cells slots Q (F0 m 64 ls [])) : W p l e R s m args below meth c H locs cells slots Q (F0 m 43 ls []) := by
  obtain ⟨hx, hb, hml, hown, hts⟩ := id S
  have hiX4 : ∀ w ∈ u_ws RX4 TX4 12, w ∈ wsX4_init := by decide +kernel
  unfold fw_X4_init at hf
  refine lv_iconst (v := 0) hx hb dX4_init_43 (by decide) ?_
  obtain ⟨v1, ev1, hf⟩ := letb_w hf
  refine lv_nmi ev1 ?_
  refine lv_istore_n (lv' := [(1, .int v1), (0, .ref (κ 0))]) hx hb dX4_init_44 rfl hl (by decide) rfl (fun ls hl => ?_)
  refine loopF_w (P := fun (g : Int32 → SX → Option (SX)) => ∀ (x1_45 : Int32) (σ_45 : SX), g x1_45 σ_45 = some σ' → ∀ (H : Heap) (locs : List Loc) (ls : Array Slot), va_P D vwCl (gw 5 κ (mC cI cII κ σ_45)) H → va_S (A) s.heap H locs → lv_has ls 2 [(0, .ref (κ 0)), (1, .int x1_45)] → W p l e R s m args below meth c H locs cells slots Q (F0 m 45 ls [])) (fun _ _ h => by simp at h) ?_ FU _ _ hf _ _ _ hP hS (lv_sub hl [1, 0] rfl)
  intro rec45 ih45 x1_45 σ_45 hf H locs ls hP hS hl
  unfold bd_X4_init_45 at hf
  refine lv_iload_n hx hb dX4_init_45 rfl (lv_at hl 1 rfl) ?_
  refine lv_bipush (v := 72) hx hb dX4_init_46 (by decide) ?_
  refine lv_icmp_ge (tgt := 64) hx hb dX4_init_48 (by decide) (fun c48 => ?_) (fun c48 => ?_)
  · have hf := iteT c48 hf
    obtain rfl := Option.some.inj hf
    exact kk _ _ _ hP hS
  · have hf := iteF c48 hf
    refine lv_aload_n hx hb dX4_init_51 rfl (lv_at hl 0 rfl) ?_
    refine g_get (q := 0) (ci := 4) (k := 2) (ref := RX4) (C := RX4) (T := TX4) (N := 12) (index := 13) (v := .ref (κ 1)) S hK hP hiX4 (by decide) rfl rfl (by decide) rfl (by decide +kernel) rfl dX4_init_52 ?_
    refine lv_iload_n hx hb dX4_init_55 rfl (lv_at hl 1 rfl) ?_
    refine lv_iconst (v := -1) hx hb dX4_init_56 (by decide) ?_
    obtain ⟨σ2, hσ2, hf⟩ := obw hf
    refine g_ast (a := 1) (len := 72) (f' := (mC cI cII κ σ2)) S hK hP hκ hA hS (by decide) (mC_arr (by decide) rfl) hσ2 (fun j _ => mC_as hσ2 (by decide) rfl j) dX4_init_57 (fun H locs hP hS => ?_)
    obtain ⟨v3, ev3, hf⟩ := letb_w hf
    refine lv_iinc (v := v3) (lv' := [(1, .int v3), (0, .ref (κ 0))]) hx hb dX4_init_58 hl (k := 1) rfl (by rw [ev3]; rfl) (by decide) rfl (fun ls hl => ?_)
    refine lv_goto (tgt := 45) hx hb dX4_init_61 (by decide) ?_
    exact ih45 _ _ hf _ _ _ hP hS (lv_sub hl [1, 0] rfl)

set_option maxRecDepth 100000 in
set_option maxHeartbeats 4000000 in
theorem wk_X4_isFaithful {p : Program} {l : Launch} {e : Env} {s : State} {m : MethodId} {args : Array Value} {below : List Frame} {meth : Method} {c : Code} {H : Heap} {locs : List Loc} {Q : State → Prop} {ls : Array Slot} {A : Nat → Prop} {D : va_G} {cI cII : ClassId} {κ : Nat → Nat} {σ σ' : SX} {r : Int32} (hκ : Inj 6 κ) (S : CallFix p m c cX4_isFaithful 10 s args wsX4_isFaithful RX4)
    (hK : KX D cI cII s) (hP : va_P D vwCl (gw 6 κ (mC cI cII κ σ)) H) (hA : ∀ k, k < 6 → A (κ k)) (hS : va_S A s.heap H locs) (hl : lv_has ls 10 [(1, .ref (κ 5)), (0, .ref (κ 0))]) (hf : fw_X4_isFaithful σ = some (r, σ'))
    (kk : ∀ (H : Heap) (locs : List Loc) (ls : Array Slot) (v : Int32) , zr v = some r → va_P D vwCl (gw 6 κ (mC cI cII κ σ')) H → va_S A s.heap H locs → W p l e ({ frames := 4, cells := 1, slots := 12, locals := 97 } : Room) s m args below meth c H locs 1 12 Q (F0 m 345 ls [.int v])) : W p l e ({ frames := 4, cells := 1, slots := 12, locals := 97 } : Room) s m args below meth c H locs 1 12 Q (F0 m 16 ls []) := by
  have hκ5 : Inj 5 κ := fun i j hi hj => hκ i j (by omega) (by omega)
  obtain ⟨hx, hb, hml, hown, hts⟩ := id S
  have hiX4 : ∀ w ∈ u_ws RX4 TX4 12, w ∈ wsX4_isFaithful := by decide +kernel
  unfold fw_X4_isFaithful at hf
  refine lv_iconst (v := 0) hx hb dX4_isFaithful_16 (by decide) ?_
  obtain ⟨v1, ev1, hf⟩ := letb_w hf
  refine lv_nmi ev1 ?_
  refine lv_istore_n (lv' := [(2, .int v1), (1, .ref (κ 5)), (0, .ref (κ 0))]) hx hb dX4_isFaithful_17 rfl hl (by decide) rfl (fun ls hl => ?_)
  refine loopF_w (P := fun (g : Int32 → SX → Option (Int32 × SX)) => ∀ (x2_18 : Int32) (σ_18 : SX), g x2_18 σ_18 = some (r, σ') → ∀ (H : Heap) (locs : List Loc) (ls : Array Slot), va_P D vwCl (gw 6 κ (mC cI cII κ σ_18)) H → va_S (A) s.heap H locs → lv_has ls 10 [(0, .ref (κ 0)), (1, .ref (κ 5)), (2, .int x2_18)] → W p l e ({ frames := 4, cells := 1, slots := 12, locals := 97 } : Room) s m args below meth c H locs 1 12 Q (F0 m 18 ls [])) (fun _ _ h => by simp at h) ?_ FU _ _ hf _ _ _ hP hS (lv_sub hl [2, 1, 0] rfl)
  intro rec18 ih18 x2_18 σ_18 hf H locs ls hP hS hl
  unfold bd_X4_isFaithful_18 at hf
  refine lv_iload_n hx hb dX4_isFaithful_18 rfl (lv_at hl 2 rfl) ?_
  refine lv_bipush (v := 12) hx hb dX4_isFaithful_19 (by decide) ?_
  refine lv_icmp_ge (tgt := 34) hx hb dX4_isFaithful_21 (by decide) (fun c21 => ?_) (fun c21 => ?_)
  · have hf := iteT c21 hf
    refine lv_aload_n hx hb dX4_isFaithful_34 rfl (lv_at hl 1 rfl) ?_
    refine lv_iconst (v := 0) hx hb dX4_isFaithful_35 (by decide) ?_
    refine lv_iconst (v := 0) hx hb dX4_isFaithful_36 (by decide) ?_
    obtain ⟨σ2, hσ2, hf⟩ := obw hf
    refine g_ast (a := 5) (len := 12) (f' := (mC cI cII κ σ2)) S hK hP hκ hA hS (by decide) (mC_arr (by decide) rfl) hσ2 (fun j _ => mC_as hσ2 (by decide) rfl j) dX4_isFaithful_37 (fun H locs hP hS => ?_)
    refine lv_iconst (v := 1) hx hb dX4_isFaithful_38 (by decide) ?_
    obtain ⟨v3, ev3, hf⟩ := letb_w hf
    refine lv_nmi ev3 ?_
    refine lv_istore_n (lv' := [(2, .int v3), (0, .ref (κ 0)), (1, .ref (κ 5))]) hx hb dX4_isFaithful_39 rfl hl (by decide) rfl (fun ls hl => ?_)
    refine lv_iconst (v := 0) hx hb dX4_isFaithful_40 (by decide) ?_
    obtain ⟨v4, ev4, hf⟩ := letb_w hf
    refine lv_nmi ev4 ?_
    refine lv_istore_n (lv' := [(3, .int v4), (2, .int v3), (0, .ref (κ 0)), (1, .ref (κ 5))]) hx hb dX4_isFaithful_41 rfl hl (by decide) rfl (fun ls hl => ?_)
    refine lv_iconst (v := 1) hx hb dX4_isFaithful_42 (by decide) ?_
    obtain ⟨v5, ev5, hf⟩ := letb_w hf
    refine lv_nmi ev5 ?_
    refine lv_istore (lv' := [(4, .int v5), (3, .int v4), (2, .int v3), (0, .ref (κ 0)), (1, .ref (κ 5))]) hx hb dX4_isFaithful_43 hl (by decide) rfl (fun ls hl => ?_)
    refine loopF_w (P := fun (g : Int32 → Int32 → Int32 → SX → Option (Int32 × SX)) => ∀ (x2_45 : Int32) (x3_45 : Int32) (x4_45 : Int32) (σ_45 : SX), g x2_45 x3_45 x4_45 σ_45 = some (r, σ') → ∀ (H : Heap) (locs : List Loc) (ls : Array Slot), va_P D vwCl (gw 6 κ (mC cI cII κ σ_45)) H → va_S (A) s.heap H locs → lv_has ls 10 [(0, .ref (κ 0)), (1, .ref (κ 5)), (2, .int x2_45), (3, .int x3_45), (4, .int x4_45)] → W p l e ({ frames := 4, cells := 1, slots := 12, locals := 97 } : Room) s m args below meth c H locs 1 12 Q (F0 m 45 ls [])) (fun _ _ _ _ h => by simp at h) ?_ FU _ _ _ _ hf _ _ _ hP hS (lv_sub hl [3, 4, 2, 1, 0] rfl)
    intro rec45 ih45 x2_45 x3_45 x4_45 σ_45 hf H locs ls hP hS hl
    unfold bd_X4_isFaithful_45 at hf
    refine lv_iload_n hx hb dX4_isFaithful_45 rfl (lv_at hl 2 rfl) ?_
    refine lv_iload_n hx hb dX4_isFaithful_46 rfl (lv_at hl 3 rfl) ?_
    obtain ⟨K237, hK237, hf⟩ := letb_w hf
    have J237 : ∀ (_u : Unit), K237 _u = some (r, σ') → ∀ (H : Heap) (locs : List Loc) (ls : Array Slot), va_P D vwCl (gw 6 κ (mC cI cII κ σ_45)) H → va_S (A) s.heap H locs → lv_has ls 10 [(0, .ref (κ 0)), (1, .ref (κ 5)), (2, .int x2_45), (4, .int x4_45)] → W p l e ({ frames := 4, cells := 1, slots := 12, locals := 97 } : Room) s m args below meth c H locs 1 12 Q (F0 m 237 ls []) := by
      intro _u hf H locs ls hP hS hl
      rw [hK237] at hf
      refine lv_iconst (v := 0) hx hb dX4_isFaithful_237 (by decide) ?_
      obtain ⟨v6, ev6, hf⟩ := letb_w hf
      refine lv_nmi ev6 ?_
      refine lv_istore (lv' := [(5, .int v6), (0, .ref (κ 0)), (1, .ref (κ 5)), (2, .int x2_45), (4, .int x4_45)]) hx hb dX4_isFaithful_238 hl (by decide) rfl (fun ls hl => ?_)
      refine lv_iconst (v := 0) hx hb dX4_isFaithful_240 (by decide) ?_
      obtain ⟨v7, ev7, hf⟩ := letb_w hf
      refine lv_nmi ev7 ?_
      refine lv_istore (lv' := [(6, .int v7), (5, .int v6), (0, .ref (κ 0)), (1, .ref (κ 5)), (2, .int x2_45), (4, .int x4_45)]) hx hb dX4_isFaithful_241 hl (by decide) rfl (fun ls hl => ?_)
      refine loopF_w (P := fun (g : Int32 → Int32 → Int32 → Option (Int32 × SX)) => ∀ (x4_243 : Int32) (x5_243 : Int32) (x6_243 : Int32), g x4_243 x5_243 x6_243 = some (r, σ') → ∀ (H : Heap) (locs : List Loc) (ls : Array Slot), va_P D vwCl (gw 6 κ (mC cI cII κ σ_45)) H → va_S (A) s.heap H locs → lv_has ls 10 [(0, .ref (κ 0)), (1, .ref (κ 5)), (2, .int x2_45), (4, .int x4_243), (5, .int x5_243), (6, .int x6_243)] → W p l e ({ frames := 4, cells := 1, slots := 12, locals := 97 } : Room) s m args below meth c H locs 1 12 Q (F0 m 243 ls [])) (fun _ _ _ h => by simp at h) ?_ FU _ _ _ hf _ _ _ hP hS (lv_sub hl [2, 3, 4, 5, 1, 0] rfl)
      intro rec243 ih243 x4_243 x5_243 x6_243 hf H locs ls hP hS hl
      unfold bd_X4_isFaithful_243 at hf
      refine lv_iload hx hb dX4_isFaithful_243 (lv_at hl 5 rfl) ?_
      refine lv_aload_n hx hb dX4_isFaithful_245 rfl (lv_at hl 0 rfl) ?_
      refine g_get (q := 0) (ci := 4) (k := 1) (ref := RX4) (C := RX4) (T := TX4) (N := 12) (index := 9) (v := .int ((σ_45.1 1))) S hK hP hiX4 (by decide) rfl rfl (by decide) rfl (by decide +kernel) rfl dX4_isFaithful_246 ?_
      obtain ⟨K326, hK326, hf⟩ := letb_w hf
      have J326 : ∀ (_u : Unit), K326 _u = some (r, σ') → ∀ (H : Heap) (locs : List Loc) (ls : Array Slot), va_P D vwCl (gw 6 κ (mC cI cII κ σ_45)) H → va_S (A) s.heap H locs → lv_has ls 10 [(0, .ref (κ 0)), (4, .int x4_243), (5, .int x5_243)] → W p l e ({ frames := 4, cells := 1, slots := 12, locals := 97 } : Room) s m args below meth c H locs 1 12 Q (F0 m 326 ls []) := by
        intro _u hf H locs ls hP hS hl
        rw [hK326] at hf
        refine lv_iload hx hb dX4_isFaithful_326 (lv_at hl 1 rfl) ?_
        obtain ⟨K344, hK344, hf⟩ := letb_w hf
        have J344 : ∀ (_u : Unit), K344 _u = some (r, σ') → ∀ (H : Heap) (locs : List Loc) (ls : Array Slot), va_P D vwCl (gw 6 κ (mC cI cII κ σ_45)) H → va_S (A) s.heap H locs → lv_has ls 10 [] → W p l e ({ frames := 4, cells := 1, slots := 12, locals := 97 } : Room) s m args below meth c H locs 1 12 Q (F0 m 344 ls []) := by
          intro _u hf H locs ls hP hS hl
          rw [hK344] at hf
          refine lv_iconst (v := 0) hx hb dX4_isFaithful_344 (by decide) ?_
          obtain ⟨w9, hw9, hf⟩ := obw hf
          obtain ⟨h8, h9⟩ := Prod.mk.inj (Option.some.inj hf)
          subst h8
          subst h9
          exact kk _ _ _ _ hw9 hP hS
        refine lv_if_eq (tgt := 344) hx hb dX4_isFaithful_328 (by decide) (fun c328 => ?_) (fun c328 => ?_)
        · have hf := iteT c328 hf
          exact J344 _ hf _ _ _ hP hS (lv_sub hl [] rfl)
        · have hf := iteF c328 hf
          refine lv_iload hx hb dX4_isFaithful_331 (lv_at hl 2 rfl) ?_
          refine lv_aload_n hx hb dX4_isFaithful_333 rfl (lv_at hl 0 rfl) ?_
          refine g_get (q := 0) (ci := 4) (k := 10) (ref := RX4) (C := RX4) (T := TX4) (N := 12) (index := 123) (v := .int ((σ_45.1 7))) S hK hP hiX4 (by decide) rfl rfl (by decide) rfl (by decide +kernel) rfl dX4_isFaithful_334 ?_
          refine lv_icmp_ne (tgt := 344) hx hb dX4_isFaithful_337 (by decide) (fun c337 => ?_) (fun c337 => ?_)
          · have hf := iteT c337 hf
            exact J344 _ hf _ _ _ hP hS (lv_sub hl [] rfl)
          · have hf := iteN c337 hf
            refine lv_iconst (v := 1) hx hb dX4_isFaithful_340 (by decide) ?_
            refine lv_goto (tgt := 345) hx hb dX4_isFaithful_341 (by decide) ?_
            obtain ⟨w9, hw9, hf⟩ := obw hf
            obtain ⟨h8, h9⟩ := Prod.mk.inj (Option.some.inj hf)
            subst h8
            subst h9
            exact kk _ _ _ _ hw9 hP hS
      refine lv_icmp_ge (tgt := 326) hx hb dX4_isFaithful_249 (by decide) (fun c249 => ?_) (fun c249 => ?_)
      · have hf := iteT c249 hf
        exact J326 _ hf _ _ _ hP hS (lv_sub hl [0, 3, 4] rfl)
      · have hf := iteF c249 hf
        refine lv_iload hx hb dX4_isFaithful_252 (lv_at hl 3 rfl) ?_
        refine lv_if_eq (tgt := 326) hx hb dX4_isFaithful_254 (by decide) (fun c254 => ?_) (fun c254 => ?_)
        · have hf := iteT c254 hf
          exact J326 _ hf _ _ _ hP hS (lv_sub hl [0, 3, 4] rfl)
        · have hf := iteF c254 hf
          refine lv_iload_n hx hb dX4_isFaithful_257 rfl (lv_at hl 2 rfl) ?_
          refine lv_iload hx hb dX4_isFaithful_258 (lv_at hl 5 rfl) ?_
          obtain ⟨v8, hq260, hf⟩ := obw hf
          refine g_calli (va_runS (As := [.int x2_45, .int x6_243]) (rest := []) S (met_X4_has l D cI cII κ hκ5 σ_45 x2_45 x6_243 v8 hq260) (va_cwS 2 S.2.2.2.2 gX4_isFaithful_X4_has rfl rfl rfl (by decide +kernel) ⟨Nat.le_of_ble_eq_true rfl, Nat.le_of_ble_eq_true rfl⟩) (g_preS hK hP (by decide)) rfl rfl hl.1 rfl (lv_room (Nat.le_of_ble_eq_true rfl)) dX4_isFaithful_260 ⟨Nat.le_of_ble_eq_true rfl, Nat.le_of_ble_eq_true rfl⟩) (by decide) hκ hA hP hS (fun _ _ _ => rfl) (fun H locs hP hS => ?_)
          obtain ⟨K320, hK320, hf⟩ := letb_w hf
          have J320 : ∀ (y4_320 : Int32) (y5_320 : Int32), K320 y4_320 y5_320 = some (r, σ') → ∀ (H : Heap) (locs : List Loc) (ls : Array Slot), va_P D vwCl (gw 6 κ (mC cI cII κ σ_45)) H → va_S (A) s.heap H locs → lv_has ls 10 [(0, .ref (κ 0)), (1, .ref (κ 5)), (2, .int x2_45), (4, .int y4_320), (5, .int y5_320), (6, .int x6_243)] → W p l e ({ frames := 4, cells := 1, slots := 12, locals := 97 } : Room) s m args below meth c H locs 1 12 Q (F0 m 320 ls []) := by
            intro y4_320 y5_320 hf H locs ls hP hS hl
            rw [hK320] at hf
            obtain ⟨v9, ev9, hf⟩ := letb_w hf
            refine lv_iinc (v := v9) (lv' := [(6, .int v9), (0, .ref (κ 0)), (1, .ref (κ 5)), (2, .int x2_45), (4, .int y4_320), (5, .int y5_320)]) hx hb dX4_isFaithful_320 hl (k := 5) rfl (by rw [ev9]; rfl) (by decide) rfl (fun ls hl => ?_)
            refine lv_goto (tgt := 243) hx hb dX4_isFaithful_323 (by decide) ?_
            exact ih243 _ _ _ hf _ _ _ hP hS (lv_sub hl [1, 2, 3, 4, 5, 0] rfl)
          refine lv_if_ne (tgt := 269) hx hb dX4_isFaithful_263 (by decide) (fun c263 => ?_) (fun c263 => ?_)
          · have hf := iteT c263 hf
            obtain ⟨v10, ev10, hf⟩ := letb_w hf
            refine lv_iinc (v := v10) (lv' := [(5, .int v10), (0, .ref (κ 0)), (1, .ref (κ 5)), (2, .int x2_45), (4, .int x4_243), (6, .int x6_243)]) hx hb dX4_isFaithful_269 hl (k := 4) rfl (by rw [ev10]; rfl) (by decide) rfl (fun ls hl => ?_)
            refine lv_iconst (v := 0) hx hb dX4_isFaithful_272 (by decide) ?_
            obtain ⟨v11, ev11, hf⟩ := letb_w hf
            refine lv_nmi ev11 ?_
            refine lv_istore (lv' := [(7, .int v11), (5, .int v10), (0, .ref (κ 0)), (1, .ref (κ 5)), (2, .int x2_45), (4, .int x4_243), (6, .int x6_243)]) hx hb dX4_isFaithful_273 hl (by decide) rfl (fun ls hl => ?_)
            refine loopF_w (P := fun (g : Int32 → Int32 → Option (Int32 × SX)) => ∀ (x4_275 : Int32) (x7_275 : Int32), g x4_275 x7_275 = some (r, σ') → ∀ (H : Heap) (locs : List Loc) (ls : Array Slot), va_P D vwCl (gw 6 κ (mC cI cII κ σ_45)) H → va_S (A) s.heap H locs → lv_has ls 10 [(0, .ref (κ 0)), (1, .ref (κ 5)), (2, .int x2_45), (4, .int x4_275), (5, .int v10), (6, .int x6_243), (7, .int x7_275)] → W p l e ({ frames := 4, cells := 1, slots := 12, locals := 97 } : Room) s m args below meth c H locs 1 12 Q (F0 m 275 ls [])) (fun _ _ h => by simp at h) ?_ FU _ _ hf _ _ _ hP hS (lv_sub hl [2, 3, 4, 5, 1, 6, 0] rfl)
            intro rec275 ih275 x4_275 x7_275 hf H locs ls hP hS hl
            unfold bd_X4_isFaithful_275 at hf
            refine lv_iload hx hb dX4_isFaithful_275 (lv_at hl 6 rfl) ?_
            refine lv_iload hx hb dX4_isFaithful_277 (lv_at hl 5 rfl) ?_
            refine lv_icmp_ge (tgt := 320) hx hb dX4_isFaithful_279 (by decide) (fun c279 => ?_) (fun c279 => ?_)
            · have hf := iteT c279 hf
              exact J320 _ _ hf _ _ _ hP hS (lv_sub hl [0, 1, 2, 3, 4, 5] rfl)
            · have hf := iteF c279 hf
              refine lv_iload hx hb dX4_isFaithful_282 (lv_at hl 3 rfl) ?_
              obtain ⟨K312, hK312, hf⟩ := letb_w hf
              have J312 : ∀ (z0_312 : Int32), K312 z0_312 = some (r, σ') → ∀ (H : Heap) (locs : List Loc) (ls : Array Slot), va_P D vwCl (gw 6 κ (mC cI cII κ σ_45)) H → va_S (A) s.heap H locs → lv_has ls 10 [(0, .ref (κ 0)), (1, .ref (κ 5)), (2, .int x2_45), (5, .int v10), (6, .int x6_243), (7, .int x7_275)] → W p l e ({ frames := 4, cells := 1, slots := 12, locals := 97 } : Room) s m args below meth c H locs 1 12 Q (F0 m 312 ls [.int z0_312]) := by
                intro z0_312 hf H locs ls hP hS hl
                rw [hK312] at hf
                obtain ⟨v12, ev12, hf⟩ := letb_w hf
                refine lv_nmi ev12 ?_
                refine lv_istore (lv' := [(4, .int v12), (0, .ref (κ 0)), (1, .ref (κ 5)), (2, .int x2_45), (5, .int v10), (6, .int x6_243), (7, .int x7_275)]) hx hb dX4_isFaithful_312 hl (by decide) rfl (fun ls hl => ?_)
                obtain ⟨v13, ev13, hf⟩ := letb_w hf
                refine lv_iinc (v := v13) (lv' := [(7, .int v13), (4, .int v12), (0, .ref (κ 0)), (1, .ref (κ 5)), (2, .int x2_45), (5, .int v10), (6, .int x6_243)]) hx hb dX4_isFaithful_314 hl (k := 6) rfl (by rw [ev13]; rfl) (by decide) rfl (fun ls hl => ?_)
                refine lv_goto (tgt := 275) hx hb dX4_isFaithful_317 (by decide) ?_
                exact ih275 _ _ hf _ _ _ hP hS (lv_sub hl [2, 3, 4, 1, 5, 6, 0] rfl)
              obtain ⟨K311, hK311, hf⟩ := letb_w hf
              have J311 : ∀ (_u : Unit), K311 _u = some (r, σ') → ∀ (H : Heap) (locs : List Loc) (ls : Array Slot), va_P D vwCl (gw 6 κ (mC cI cII κ σ_45)) H → va_S (A) s.heap H locs → lv_has ls 10 [(0, .ref (κ 0)), (1, .ref (κ 5)), (2, .int x2_45), (5, .int v10), (6, .int x6_243), (7, .int x7_275)] → W p l e ({ frames := 4, cells := 1, slots := 12, locals := 97 } : Room) s m args below meth c H locs 1 12 Q (F0 m 311 ls []) := by
                intro _u hf H locs ls hP hS hl
                rw [hK311] at hf
                refine lv_iconst (v := 0) hx hb dX4_isFaithful_311 (by decide) ?_
                exact J312 _ hf _ _ _ hP hS (lv_sub hl [0, 1, 2, 3, 4, 5] rfl)
              refine lv_if_eq (tgt := 311) hx hb dX4_isFaithful_284 (by decide) (fun c284 => ?_) (fun c284 => ?_)
              · have hf := iteT c284 hf
                exact J311 _ hf _ _ _ hP hS (lv_sub hl [0, 1, 2, 4, 5, 6] rfl)
              · have hf := iteF c284 hf
                refine lv_iload_n hx hb dX4_isFaithful_287 rfl (lv_at hl 2 rfl) ?_
                refine lv_iload hx hb dX4_isFaithful_288 (lv_at hl 6 rfl) ?_
                obtain ⟨v14, hq290, hf⟩ := obw hf
                refine g_calli (va_runS (As := [.int x2_45, .int x7_275]) (rest := []) S (met_X4_has l D cI cII κ hκ5 σ_45 x2_45 x7_275 v14 hq290) (va_cwS 2 S.2.2.2.2 gX4_isFaithful_X4_has rfl rfl rfl (by decide +kernel) ⟨Nat.le_of_ble_eq_true rfl, Nat.le_of_ble_eq_true rfl⟩) (g_preS hK hP (by decide)) rfl rfl hl.1 rfl (lv_room (Nat.le_of_ble_eq_true rfl)) dX4_isFaithful_290 ⟨Nat.le_of_ble_eq_true rfl, Nat.le_of_ble_eq_true rfl⟩) (by decide) hκ hA hP hS (fun _ _ _ => rfl) (fun H locs hP hS => ?_)
                obtain ⟨K307, hK307, hf⟩ := letb_w hf
                have J307 : ∀ (_u : Unit), K307 _u = some (r, σ') → ∀ (H : Heap) (locs : List Loc) (ls : Array Slot), va_P D vwCl (gw 6 κ (mC cI cII κ σ_45)) H → va_S (A) s.heap H locs → lv_has ls 10 [(0, .ref (κ 0)), (1, .ref (κ 5)), (2, .int x2_45), (5, .int v10), (6, .int x6_243), (7, .int x7_275)] → W p l e ({ frames := 4, cells := 1, slots := 12, locals := 97 } : Room) s m args below meth c H locs 1 12 Q (F0 m 307 ls []) := by
                  intro _u hf H locs ls hP hS hl
                  rw [hK307] at hf
                  refine lv_iconst (v := 1) hx hb dX4_isFaithful_307 (by decide) ?_
                  refine lv_goto (tgt := 312) hx hb dX4_isFaithful_308 (by decide) ?_
                  exact J312 _ hf _ _ _ hP hS (lv_sub hl [0, 1, 2, 3, 4, 5] rfl)
                refine lv_if_eq (tgt := 307) hx hb dX4_isFaithful_293 (by decide) (fun c293 => ?_) (fun c293 => ?_)
                · have hf := iteT c293 hf
                  exact J307 _ hf _ _ _ hP hS (lv_sub hl [0, 1, 2, 4, 5, 6] rfl)
                · have hf := iteF c293 hf
                  refine lv_aload_n hx hb dX4_isFaithful_296 rfl (lv_at hl 1 rfl) ?_
                  refine lv_iload hx hb dX4_isFaithful_297 (lv_at hl 6 rfl) ?_
                  obtain ⟨v15, hv15, hf⟩ := obw hf
                  refine g_ald (a := 5) (len := 12) S hK hP (by decide) (mC_arr (by decide) rfl) hv15 dX4_isFaithful_299 ?_
                  refine lv_aload_n hx hb dX4_isFaithful_300 rfl (lv_at hl 1 rfl) ?_
                  refine lv_iload hx hb dX4_isFaithful_301 (lv_at hl 5 rfl) ?_
                  obtain ⟨v16, hv16, hf⟩ := obw hf
                  refine g_ald (a := 5) (len := 12) S hK hP (by decide) (mC_arr (by decide) rfl) hv16 dX4_isFaithful_303 ?_
                  refine lv_icmp_eq (tgt := 311) hx hb dX4_isFaithful_304 (by decide) (fun c304 => ?_) (fun c304 => ?_)
                  · have hf := iteT c304 hf
                    exact J311 _ hf _ _ _ hP hS (lv_sub hl [0, 1, 2, 4, 5, 6] rfl)
                  · have hf := iteF c304 hf
                    exact J307 _ hf _ _ _ hP hS (lv_sub hl [0, 1, 2, 4, 5, 6] rfl)
          · have hf := iteN c263 hf
            refine lv_goto (tgt := 320) hx hb dX4_isFaithful_266 (by decide) ?_
            exact J320 _ _ hf _ _ _ hP hS (lv_sub hl [0, 1, 2, 3, 4, 5] rfl)
    refine lv_icmp_eq (tgt := 237) hx hb dX4_isFaithful_47 (by decide) (fun c47 => ?_) (fun c47 => ?_)
    · have hf := iteT c47 hf
      exact J237 _ hf _ _ _ hP hS (lv_sub hl [0, 1, 2, 4] rfl)
    · have hf := iteF c47 hf
      refine lv_iload hx hb dX4_isFaithful_50 (lv_at hl 4 rfl) ?_
      refine lv_if_eq (tgt := 237) hx hb dX4_isFaithful_52 (by decide) (fun c52 => ?_) (fun c52 => ?_)
      · have hf := iteT c52 hf
        exact J237 _ hf _ _ _ hP hS (lv_sub hl [0, 1, 2, 4] rfl)
      · have hf := iteF c52 hf
        refine lv_iload_n hx hb dX4_isFaithful_55 rfl (lv_at hl 2 rfl) ?_
        obtain ⟨v17, ev17, hf⟩ := letb_w hf
        refine lv_nmi ev17 ?_
        refine lv_istore_n (lv' := [(3, .int v17), (0, .ref (κ 0)), (1, .ref (κ 5)), (2, .int x2_45), (4, .int x4_45)]) hx hb dX4_isFaithful_56 rfl hl (by decide) rfl (fun ls hl => ?_)
        refine lv_iconst (v := 0) hx hb dX4_isFaithful_57 (by decide) ?_
        obtain ⟨v18, ev18, hf⟩ := letb_w hf
        refine lv_nmi ev18 ?_
        refine lv_istore (lv' := [(5, .int v18), (3, .int v17), (0, .ref (κ 0)), (1, .ref (κ 5)), (2, .int x2_45), (4, .int x4_45)]) hx hb dX4_isFaithful_58 hl (by decide) rfl (fun ls hl => ?_)
        refine loopF_w (P := fun (g : Int32 → Int32 → Int32 → SX → Option (Int32 × SX)) => ∀ (x2_60 : Int32) (x4_60 : Int32) (x5_60 : Int32) (σ_60 : SX), g x2_60 x4_60 x5_60 σ_60 = some (r, σ') → ∀ (H : Heap) (locs : List Loc) (ls : Array Slot), va_P D vwCl (gw 6 κ (mC cI cII κ σ_60)) H → va_S (A) s.heap H locs → lv_has ls 10 [(0, .ref (κ 0)), (1, .ref (κ 5)), (2, .int x2_60), (3, .int v17), (4, .int x4_60), (5, .int x5_60)] → W p l e ({ frames := 4, cells := 1, slots := 12, locals := 97 } : Room) s m args below meth c H locs 1 12 Q (F0 m 60 ls [])) (fun _ _ _ _ h => by simp at h) ?_ FU _ _ _ _ hf _ _ _ hP hS (lv_sub hl [2, 3, 4, 1, 5, 0] rfl)
        intro rec60 ih60 x2_60 x4_60 x5_60 σ_60 hf H locs ls hP hS hl
        unfold bd_X4_isFaithful_60 at hf
        refine lv_iload hx hb dX4_isFaithful_60 (lv_at hl 5 rfl) ?_
        refine lv_aload_n hx hb dX4_isFaithful_62 rfl (lv_at hl 0 rfl) ?_
        refine g_get (q := 0) (ci := 4) (k := 1) (ref := RX4) (C := RX4) (T := TX4) (N := 12) (index := 9) (v := .int ((σ_60.1 1))) S hK hP hiX4 (by decide) rfl rfl (by decide) rfl (by decide +kernel) rfl dX4_isFaithful_63 ?_
        obtain ⟨K234, hK234, hf⟩ := letb_w hf
        have J234 : ∀ (_u : Unit), K234 _u = some (r, σ') → ∀ (H : Heap) (locs : List Loc) (ls : Array Slot), va_P D vwCl (gw 6 κ (mC cI cII κ σ_60)) H → va_S (A) s.heap H locs → lv_has ls 10 [(0, .ref (κ 0)), (1, .ref (κ 5)), (2, .int x2_60), (3, .int v17), (4, .int x4_60)] → W p l e ({ frames := 4, cells := 1, slots := 12, locals := 97 } : Room) s m args below meth c H locs 1 12 Q (F0 m 234 ls []) := by
          intro _u hf H locs ls hP hS hl
          rw [hK234] at hf
          refine lv_goto (tgt := 45) hx hb dX4_isFaithful_234 (by decide) ?_
          exact ih45 _ _ _ _ hf _ _ _ hP hS (lv_sub hl [0, 1, 2, 3, 4] rfl)
        refine lv_icmp_ge (tgt := 234) hx hb dX4_isFaithful_66 (by decide) (fun c66 => ?_) (fun c66 => ?_)
        · have hf := iteT c66 hf
          exact J234 _ hf _ _ _ hP hS (lv_sub hl [0, 1, 2, 3, 4] rfl)
        · have hf := iteF c66 hf
          refine lv_iload hx hb dX4_isFaithful_69 (lv_at hl 4 rfl) ?_
          refine lv_if_eq (tgt := 234) hx hb dX4_isFaithful_71 (by decide) (fun c71 => ?_) (fun c71 => ?_)
          · have hf := iteT c71 hf
            exact J234 _ hf _ _ _ hP hS (lv_sub hl [0, 1, 2, 3, 4] rfl)
          · have hf := iteF c71 hf
            refine lv_iconst (v := 0) hx hb dX4_isFaithful_74 (by decide) ?_
            obtain ⟨v19, ev19, hf⟩ := letb_w hf
            refine lv_nmi ev19 ?_
            refine lv_istore (lv' := [(6, .int v19), (0, .ref (κ 0)), (1, .ref (κ 5)), (2, .int x2_60), (3, .int v17), (4, .int x4_60), (5, .int x5_60)]) hx hb dX4_isFaithful_75 hl (by decide) rfl (fun ls hl => ?_)
            refine loopF_w (P := fun (g : Int32 → Int32 → Int32 → SX → Option (Int32 × SX)) => ∀ (x2_77 : Int32) (x4_77 : Int32) (x6_77 : Int32) (σ_77 : SX), g x2_77 x4_77 x6_77 σ_77 = some (r, σ') → ∀ (H : Heap) (locs : List Loc) (ls : Array Slot), va_P D vwCl (gw 6 κ (mC cI cII κ σ_77)) H → va_S (A) s.heap H locs → lv_has ls 10 [(0, .ref (κ 0)), (1, .ref (κ 5)), (2, .int x2_77), (3, .int v17), (4, .int x4_77), (5, .int x5_60), (6, .int x6_77)] → W p l e ({ frames := 4, cells := 1, slots := 12, locals := 97 } : Room) s m args below meth c H locs 1 12 Q (F0 m 77 ls [])) (fun _ _ _ _ h => by simp at h) ?_ FU _ _ _ _ hf _ _ _ hP hS (lv_sub hl [1, 2, 3, 4, 5, 6, 0] rfl)
            intro rec77 ih77 x2_77 x4_77 x6_77 σ_77 hf H locs ls hP hS hl
            unfold bd_X4_isFaithful_77 at hf
            refine lv_iload hx hb dX4_isFaithful_77 (lv_at hl 6 rfl) ?_
            refine lv_bipush (v := 6) hx hb dX4_isFaithful_79 (by decide) ?_
            obtain ⟨K228, hK228, hf⟩ := letb_w hf
            have J228 : ∀ (_u : Unit), K228 _u = some (r, σ') → ∀ (H : Heap) (locs : List Loc) (ls : Array Slot), va_P D vwCl (gw 6 κ (mC cI cII κ σ_77)) H → va_S (A) s.heap H locs → lv_has ls 10 [(0, .ref (κ 0)), (1, .ref (κ 5)), (2, .int x2_77), (3, .int v17), (4, .int x4_77), (5, .int x5_60)] → W p l e ({ frames := 4, cells := 1, slots := 12, locals := 97 } : Room) s m args below meth c H locs 1 12 Q (F0 m 228 ls []) := by
              intro _u hf H locs ls hP hS hl
              rw [hK228] at hf
              obtain ⟨v20, ev20, hf⟩ := letb_w hf
              refine lv_iinc (v := v20) (lv' := [(5, .int v20), (0, .ref (κ 0)), (1, .ref (κ 5)), (2, .int x2_77), (3, .int v17), (4, .int x4_77)]) hx hb dX4_isFaithful_228 hl (k := 5) rfl (by rw [ev20]; rfl) (by decide) rfl (fun ls hl => ?_)
              refine lv_goto (tgt := 60) hx hb dX4_isFaithful_231 (by decide) ?_
              exact ih60 _ _ _ _ hf _ _ _ hP hS (lv_sub hl [1, 2, 3, 4, 5, 0] rfl)
            refine lv_icmp_ge (tgt := 228) hx hb dX4_isFaithful_81 (by decide) (fun c81 => ?_) (fun c81 => ?_)
            · have hf := iteT c81 hf
              exact J228 _ hf _ _ _ hP hS (lv_sub hl [0, 1, 2, 3, 4, 5] rfl)
            · have hf := iteF c81 hf
              refine lv_iload_n hx hb dX4_isFaithful_84 rfl (lv_at hl 3 rfl) ?_
              refine lv_iload hx hb dX4_isFaithful_85 (lv_at hl 5 rfl) ?_
              obtain ⟨v21, hq87, hf⟩ := obw hf
              refine g_calli (va_runS (As := [.int v17, .int x5_60]) (rest := []) S (met_X4_has l D cI cII κ hκ5 σ_77 v17 x5_60 v21 hq87) (va_cwS 2 S.2.2.2.2 gX4_isFaithful_X4_has rfl rfl rfl (by decide +kernel) ⟨Nat.le_of_ble_eq_true rfl, Nat.le_of_ble_eq_true rfl⟩) (g_preS hK hP (by decide)) rfl rfl hl.1 rfl (lv_room (Nat.le_of_ble_eq_true rfl)) dX4_isFaithful_87 ⟨Nat.le_of_ble_eq_true rfl, Nat.le_of_ble_eq_true rfl⟩) (by decide) hκ hA hP hS (fun _ _ _ => rfl) (fun H locs hP hS => ?_)
              refine lv_if_eq (tgt := 228) hx hb dX4_isFaithful_90 (by decide) (fun c90 => ?_) (fun c90 => ?_)
              · have hf := iteT c90 hf
                exact J228 _ hf _ _ _ hP hS (lv_sub hl [0, 1, 2, 3, 4, 5] rfl)
              · have hf := iteF c90 hf
                refine lv_iload hx hb dX4_isFaithful_93 (lv_at hl 4 rfl) ?_
                refine lv_if_eq (tgt := 228) hx hb dX4_isFaithful_95 (by decide) (fun c95 => ?_) (fun c95 => ?_)
                · have hf := iteT c95 hf
                  exact J228 _ hf _ _ _ hP hS (lv_sub hl [0, 1, 2, 3, 4, 5] rfl)
                · have hf := iteF c95 hf
                  refine lv_aload_n hx hb dX4_isFaithful_98 rfl (lv_at hl 0 rfl) ?_
                  refine lv_iload hx hb dX4_isFaithful_99 (lv_at hl 5 rfl) ?_
                  refine lv_iload hx hb dX4_isFaithful_101 (lv_at hl 6 rfl) ?_
                  obtain ⟨v22, hq103, hf⟩ := obw hf
                  refine g_calli (va_runV (As := [.int x5_60, .int x6_77]) (rest := []) S (met_X4_to l D cI cII κ hκ5 σ_77 x5_60 x6_77 v22 hq103) (cwV 2 S.2.2.2.2 gX4_isFaithful_X4_to rfl rfl rfl (by decide +kernel) ⟨Nat.le_of_ble_eq_true rfl, Nat.le_of_ble_eq_true rfl⟩) (g_preV (N := 12) (T := TX4) hK hP (by decide) (by decide) rfl rfl) rfl rfl hl.1 rfl (lv_room (Nat.le_of_ble_eq_true rfl)) dX4_isFaithful_103 ⟨Nat.le_of_ble_eq_true rfl, Nat.le_of_ble_eq_true rfl⟩) (by decide) hκ hA hP hS (fun _ _ _ => rfl) (fun H locs hP hS => ?_)
                  obtain ⟨v23, ev23, hf⟩ := letb_w hf
                  refine lv_nmi ev23 ?_
                  refine lv_istore (lv' := [(7, .int v23), (0, .ref (κ 0)), (1, .ref (κ 5)), (2, .int x2_77), (3, .int v17), (4, .int x4_77), (5, .int x5_60), (6, .int x6_77)]) hx hb dX4_isFaithful_106 hl (by decide) rfl (fun ls hl => ?_)
                  refine lv_aload_n hx hb dX4_isFaithful_108 rfl (lv_at hl 1 rfl) ?_
                  refine lv_aload_n hx hb dX4_isFaithful_109 rfl (lv_at hl 1 rfl) ?_
                  refine g_get (q := 0) (ci := 4) (k := 11) (ref := RX4) (C := RX4) (T := TX4) (N := 12) (index := 23) (v := .ref (κ 4)) S hK hP hiX4 (by decide) rfl rfl (by decide) rfl (by decide +kernel) rfl dX4_isFaithful_110 ?_
                  refine lv_aload_n hx hb dX4_isFaithful_113 rfl (lv_at hl 2 rfl) ?_
                  refine lv_iload hx hb dX4_isFaithful_114 (lv_at hl 6 rfl) ?_
                  obtain ⟨v24, hv24, hf⟩ := obw hf
                  refine g_ald (a := 5) (len := 12) S hK hP (by decide) (mC_arr (by decide) rfl) hv24 dX4_isFaithful_116 ?_
                  obtain ⟨v25, hv25, hf⟩ := obw hf
                  refine g_ald (a := 4) (len := 200) S hK hP (by decide) (mC_arr (by decide) rfl) hv25 dX4_isFaithful_117 ?_
                  refine lv_iload hx hb dX4_isFaithful_118 (lv_at hl 7 rfl) ?_
                  obtain ⟨v26, hq120, hf⟩ := obw hf
                  refine g_calli (va_runV (As := [.int v25, .int x6_77]) (rest := []) S (met_X4_behind l D cI cII κ hκ5 σ_77 v25 x6_77 v26 hq120) (cwV 2 S.2.2.2.2 gX4_isFaithful_X4_behind rfl rfl rfl (by decide +kernel) ⟨Nat.le_of_ble_eq_true rfl, Nat.le_of_ble_eq_true rfl⟩) (g_preV (N := 12) (T := TX4) hK hP (by decide) (by decide) rfl rfl) rfl rfl hl.1 rfl (lv_room (Nat.le_of_ble_eq_true rfl)) dX4_isFaithful_120 ⟨Nat.le_of_ble_eq_true rfl, Nat.le_of_ble_eq_true rfl⟩) (by decide) hκ hA hP hS (fun _ _ _ => rfl) (fun H locs hP hS => ?_)
                  obtain ⟨v27, ev27, hf⟩ := letb_w hf
                  refine lv_nmi ev27 ?_
                  refine lv_istore (lv' := [(8, .int v27), (7, .int v23), (0, .ref (κ 0)), (1, .ref (κ 5)), (2, .int x2_77), (3, .int v17), (4, .int x4_77), (5, .int x5_60), (6, .int x6_77)]) hx hb dX4_isFaithful_123 hl (by decide) rfl (fun ls hl => ?_)
                  refine lv_iload hx hb dX4_isFaithful_125 (lv_at hl 1 rfl) ?_
                  refine lv_iconst (v := -1) hx hb dX4_isFaithful_127 (by decide) ?_
                  obtain ⟨K136, hK136, hf⟩ := letb_w hf
                  have J136 : ∀ (z0_136 : Int32), K136 z0_136 = some (r, σ') → ∀ (H : Heap) (locs : List Loc) (ls : Array Slot), va_P D vwCl (gw 6 κ (mC cI cII κ σ_77)) H → va_S (A) s.heap H locs → lv_has ls 10 [(0, .ref (κ 0)), (1, .ref (κ 5)), (2, .int x2_77), (3, .int v17), (5, .int x5_60), (6, .int x6_77), (7, .int v23), (8, .int v27)] → W p l e ({ frames := 4, cells := 1, slots := 12, locals := 97 } : Room) s m args below meth c H locs 1 12 Q (F0 m 136 ls [.int z0_136]) := by
                    intro z0_136 hf H locs ls hP hS hl
                    rw [hK136] at hf
                    refine lv_iload hx hb dX4_isFaithful_136 (lv_at hl 7 rfl) ?_
                    refine lv_iconst (v := -1) hx hb dX4_isFaithful_138 (by decide) ?_
                    obtain ⟨K147, hK147, hf⟩ := letb_w hf
                    have J147 : ∀ (z1_147 : Int32), K147 z1_147 = some (r, σ') → ∀ (H : Heap) (locs : List Loc) (ls : Array Slot), va_P D vwCl (gw 6 κ (mC cI cII κ σ_77)) H → va_S (A) s.heap H locs → lv_has ls 10 [(0, .ref (κ 0)), (1, .ref (κ 5)), (2, .int x2_77), (3, .int v17), (5, .int x5_60), (6, .int x6_77), (7, .int v23), (8, .int v27)] → W p l e ({ frames := 4, cells := 1, slots := 12, locals := 97 } : Room) s m args below meth c H locs 1 12 Q (F0 m 147 ls [.int z1_147, .int z0_136]) := by
                      intro z1_147 hf H locs ls hP hS hl
                      rw [hK147] at hf
                      obtain ⟨K155, hK155, hf⟩ := letb_w hf
                      have J155 : ∀ (z0_155 : Int32), K155 z0_155 = some (r, σ') → ∀ (H : Heap) (locs : List Loc) (ls : Array Slot), va_P D vwCl (gw 6 κ (mC cI cII κ σ_77)) H → va_S (A) s.heap H locs → lv_has ls 10 [(0, .ref (κ 0)), (1, .ref (κ 5)), (2, .int x2_77), (3, .int v17), (5, .int x5_60), (6, .int x6_77), (7, .int v23), (8, .int v27)] → W p l e ({ frames := 4, cells := 1, slots := 12, locals := 97 } : Room) s m args below meth c H locs 1 12 Q (F0 m 155 ls [.int z0_155]) := by
                        intro z0_155 hf H locs ls hP hS hl
                        rw [hK155] at hf
                        obtain ⟨v28, ev28, hf⟩ := letb_w hf
                        refine lv_nmi ev28 ?_
                        refine lv_istore (lv' := [(4, .int v28), (0, .ref (κ 0)), (1, .ref (κ 5)), (2, .int x2_77), (3, .int v17), (5, .int x5_60), (6, .int x6_77), (7, .int v23), (8, .int v27)]) hx hb dX4_isFaithful_155 hl (by decide) rfl (fun ls hl => ?_)
                        refine lv_iload hx hb dX4_isFaithful_157 (lv_at hl 0 rfl) ?_
                        obtain ⟨K222, hK222, hf⟩ := letb_w hf
                        have J222 : ∀ (y2_222 : Int32) (y4_222 : Int32) (τ_222 : SX), K222 y2_222 y4_222 τ_222 = some (r, σ') → ∀ (H : Heap) (locs : List Loc) (ls : Array Slot), va_P D vwCl (gw 6 κ (mC cI cII κ τ_222)) H → va_S (A) s.heap H locs → lv_has ls 10 [(0, .ref (κ 0)), (1, .ref (κ 5)), (2, .int y2_222), (3, .int v17), (4, .int y4_222), (5, .int x5_60), (6, .int x6_77)] → W p l e ({ frames := 4, cells := 1, slots := 12, locals := 97 } : Room) s m args below meth c H locs 1 12 Q (F0 m 222 ls []) := by
                          intro y2_222 y4_222 τ_222 hf H locs ls hP hS hl
                          rw [hK222] at hf
                          obtain ⟨v29, ev29, hf⟩ := letb_w hf
                          refine lv_iinc (v := v29) (lv' := [(6, .int v29), (0, .ref (κ 0)), (1, .ref (κ 5)), (2, .int y2_222), (3, .int v17), (4, .int y4_222), (5, .int x5_60)]) hx hb dX4_isFaithful_222 hl (k := 6) rfl (by rw [ev29]; rfl) (by decide) rfl (fun ls hl => ?_)
                          refine lv_goto (tgt := 77) hx hb dX4_isFaithful_225 (by decide) ?_
                          exact ih77 _ _ _ _ hf _ _ _ hP hS (lv_sub hl [1, 2, 3, 4, 5, 6, 0] rfl)
                        refine lv_if_eq (tgt := 222) hx hb dX4_isFaithful_159 (by decide) (fun c159 => ?_) (fun c159 => ?_)
                        · have hf := iteT c159 hf
                          exact J222 _ _ _ hf _ _ _ hP hS (lv_sub hl [1, 2, 3, 4, 0, 5, 6] rfl)
                        · have hf := iteF c159 hf
                          refine lv_iload hx hb dX4_isFaithful_162 (lv_at hl 7 rfl) ?_
                          refine lv_iconst (v := -1) hx hb dX4_isFaithful_164 (by decide) ?_
                          refine lv_icmp_ne (tgt := 171) hx hb dX4_isFaithful_165 (by decide) (fun c165 => ?_) (fun c165 => ?_)
                          · have hf := iteT c165 hf
                            refine lv_aload_n hx hb dX4_isFaithful_171 rfl (lv_at hl 1 rfl) ?_
                            refine lv_iload hx hb dX4_isFaithful_172 (lv_at hl 8 rfl) ?_
                            obtain ⟨v30, hq174, hf⟩ := obw hf
                            refine g_calli (va_runV (As := [.int v27]) (rest := []) S (met_X4_numberOf l D cI cII κ hκ5 σ_77 v27 v30 hq174) (cwV 1 S.2.2.2.2 gX4_isFaithful_X4_numberOf rfl rfl rfl (by decide +kernel) ⟨Nat.le_of_ble_eq_true rfl, Nat.le_of_ble_eq_true rfl⟩) (g_preV (N := 12) (T := TX4) hK hP (by decide) (by decide) rfl rfl) rfl rfl hl.1 rfl (lv_room (Nat.le_of_ble_eq_true rfl)) dX4_isFaithful_174 ⟨Nat.le_of_ble_eq_true rfl, Nat.le_of_ble_eq_true rfl⟩) (by decide) hκ hA hP hS (fun _ _ _ => rfl) (fun H locs hP hS => ?_)
                            obtain ⟨v31, ev31, hf⟩ := letb_w hf
                            refine lv_nmi ev31 ?_
                            refine lv_istore (lv' := [(9, .int v31), (4, .int v28), (0, .ref (κ 0)), (1, .ref (κ 5)), (2, .int x2_77), (3, .int v17), (5, .int x5_60), (6, .int x6_77), (7, .int v23), (8, .int v27)]) hx hb dX4_isFaithful_177 hl (by decide) rfl (fun ls hl => ?_)
                            refine lv_iload hx hb dX4_isFaithful_179 (lv_at hl 0 rfl) ?_
                            refine lv_iconst (v := -1) hx hb dX4_isFaithful_181 (by decide) ?_
                            obtain ⟨K207, hK207, hf⟩ := letb_w hf
                            have J207 : ∀ (z0_207 : Int32), K207 z0_207 = some (r, σ') → ∀ (H : Heap) (locs : List Loc) (ls : Array Slot), va_P D vwCl (gw 6 κ (mC cI cII κ σ_77)) H → va_S (A) s.heap H locs → lv_has ls 10 [(0, .ref (κ 0)), (1, .ref (κ 5)), (2, .int x2_77), (3, .int v17), (5, .int x5_60), (6, .int x6_77), (7, .int v23), (9, .int v31)] → W p l e ({ frames := 4, cells := 1, slots := 12, locals := 97 } : Room) s m args below meth c H locs 1 12 Q (F0 m 207 ls [.int z0_207]) := by
                              intro z0_207 hf H locs ls hP hS hl
                              rw [hK207] at hf
                              obtain ⟨v32, ev32, hf⟩ := letb_w hf
                              refine lv_nmi ev32 ?_
                              refine lv_istore (lv' := [(4, .int v32), (0, .ref (κ 0)), (1, .ref (κ 5)), (2, .int x2_77), (3, .int v17), (5, .int x5_60), (6, .int x6_77), (7, .int v23), (9, .int v31)]) hx hb dX4_isFaithful_207 hl (by decide) rfl (fun ls hl => ?_)
                              refine lv_aload_n hx hb dX4_isFaithful_209 rfl (lv_at hl 2 rfl) ?_
                              refine lv_iload hx hb dX4_isFaithful_210 (lv_at hl 7 rfl) ?_
                              refine lv_iload hx hb dX4_isFaithful_212 (lv_at hl 8 rfl) ?_
                              obtain ⟨σ33, hσ33, hf⟩ := obw hf
                              refine g_ast (a := 5) (len := 12) (f' := (mC cI cII κ σ33)) S hK hP hκ hA hS (by decide) (mC_arr (by decide) rfl) hσ33 (fun j _ => mC_as hσ33 (by decide) rfl j) dX4_isFaithful_214 (fun H locs hP hS => ?_)
                              refine lv_iload_n hx hb dX4_isFaithful_215 rfl (lv_at hl 3 rfl) ?_
                              refine lv_iconst (v := 1) hx hb dX4_isFaithful_216 (by decide) ?_
                              refine lv_iload hx hb dX4_isFaithful_217 (lv_at hl 7 rfl) ?_
                              refine lv_ishl hx hb dX4_isFaithful_219 ?_
                              refine lv_ior hx hb dX4_isFaithful_220 ?_
                              obtain ⟨v34, ev34, hf⟩ := letb_w hf
                              refine lv_nmi ev34 ?_
                              refine lv_istore_n (lv' := [(2, .int v34), (4, .int v32), (0, .ref (κ 0)), (1, .ref (κ 5)), (3, .int v17), (5, .int x5_60), (6, .int x6_77), (7, .int v23), (9, .int v31)]) hx hb dX4_isFaithful_221 rfl hl (by decide) rfl (fun ls hl => ?_)
                              exact J222 _ _ _ hf _ _ _ hP hS (lv_sub hl [2, 3, 0, 4, 1, 5, 6] rfl)
                            obtain ⟨K206, hK206, hf⟩ := letb_w hf
                            have J206 : ∀ (_u : Unit), K206 _u = some (r, σ') → ∀ (H : Heap) (locs : List Loc) (ls : Array Slot), va_P D vwCl (gw 6 κ (mC cI cII κ σ_77)) H → va_S (A) s.heap H locs → lv_has ls 10 [(0, .ref (κ 0)), (1, .ref (κ 5)), (2, .int x2_77), (3, .int v17), (5, .int x5_60), (6, .int x6_77), (7, .int v23), (9, .int v31)] → W p l e ({ frames := 4, cells := 1, slots := 12, locals := 97 } : Room) s m args below meth c H locs 1 12 Q (F0 m 206 ls []) := by
                              intro _u hf H locs ls hP hS hl
                              rw [hK206] at hf
                              refine lv_iconst (v := 0) hx hb dX4_isFaithful_206 (by decide) ?_
                              exact J207 _ hf _ _ _ hP hS (lv_sub hl [0, 1, 2, 3, 4, 5, 6, 7] rfl)
                            refine lv_icmp_eq (tgt := 206) hx hb dX4_isFaithful_182 (by decide) (fun c182 => ?_) (fun c182 => ?_)
                            · have hf := iteT c182 hf
                              exact J206 _ hf _ _ _ hP hS (lv_sub hl [2, 3, 4, 5, 6, 7, 8, 0] rfl)
                            · have hf := iteF c182 hf
                              refine lv_aload_n hx hb dX4_isFaithful_185 rfl (lv_at hl 3 rfl) ?_
                              refine lv_iload hx hb dX4_isFaithful_186 (lv_at hl 8 rfl) ?_
                              obtain ⟨v35, hv35, hf⟩ := obw hf
                              refine g_ald (a := 5) (len := 12) S hK hP (by decide) (mC_arr (by decide) rfl) hv35 dX4_isFaithful_188 ?_
                              refine lv_iconst (v := -1) hx hb dX4_isFaithful_189 (by decide) ?_
                              obtain ⟨K202, hK202, hf⟩ := letb_w hf
                              have J202 : ∀ (_u : Unit), K202 _u = some (r, σ') → ∀ (H : Heap) (locs : List Loc) (ls : Array Slot), va_P D vwCl (gw 6 κ (mC cI cII κ σ_77)) H → va_S (A) s.heap H locs → lv_has ls 10 [(0, .ref (κ 0)), (1, .ref (κ 5)), (2, .int x2_77), (3, .int v17), (5, .int x5_60), (6, .int x6_77), (7, .int v23), (9, .int v31)] → W p l e ({ frames := 4, cells := 1, slots := 12, locals := 97 } : Room) s m args below meth c H locs 1 12 Q (F0 m 202 ls []) := by
                                intro _u hf H locs ls hP hS hl
                                rw [hK202] at hf
                                refine lv_iconst (v := 1) hx hb dX4_isFaithful_202 (by decide) ?_
                                refine lv_goto (tgt := 207) hx hb dX4_isFaithful_203 (by decide) ?_
                                exact J207 _ hf _ _ _ hP hS (lv_sub hl [0, 1, 2, 3, 4, 5, 6, 7] rfl)
                              refine lv_icmp_eq (tgt := 202) hx hb dX4_isFaithful_190 (by decide) (fun c190 => ?_) (fun c190 => ?_)
                              · have hf := iteT c190 hf
                                exact J202 _ hf _ _ _ hP hS (lv_sub hl [2, 3, 4, 5, 6, 7, 8, 0] rfl)
                              · have hf := iteF c190 hf
                                refine lv_aload_n hx hb dX4_isFaithful_193 rfl (lv_at hl 3 rfl) ?_
                                refine lv_iload hx hb dX4_isFaithful_194 (lv_at hl 8 rfl) ?_
                                obtain ⟨v36, hv36, hf⟩ := obw hf
                                refine g_ald (a := 5) (len := 12) S hK hP (by decide) (mC_arr (by decide) rfl) hv36 dX4_isFaithful_196 ?_
                                refine lv_iload hx hb dX4_isFaithful_197 (lv_at hl 0 rfl) ?_
                                refine lv_icmp_ne (tgt := 206) hx hb dX4_isFaithful_199 (by decide) (fun c199 => ?_) (fun c199 => ?_)
                                · have hf := iteT c199 hf
                                  exact J206 _ hf _ _ _ hP hS (lv_sub hl [2, 3, 4, 5, 6, 7, 8, 0] rfl)
                                · have hf := iteN c199 hf
                                  exact J202 _ hf _ _ _ hP hS (lv_sub hl [2, 3, 4, 5, 6, 7, 8, 0] rfl)
                          · have hf := iteN c165 hf
                            refine lv_goto (tgt := 222) hx hb dX4_isFaithful_168 (by decide) ?_
                            exact J222 _ _ _ hf _ _ _ hP hS (lv_sub hl [1, 2, 3, 4, 0, 5, 6] rfl)
                      refine lv_icmp_ne (tgt := 154) hx hb dX4_isFaithful_147 (by decide) (fun c147 => ?_) (fun c147 => ?_)
                      · have hf := iteT c147 hf
                        refine lv_iconst (v := 0) hx hb dX4_isFaithful_154 (by decide) ?_
                        exact J155 _ hf _ _ _ hP hS (lv_sub hl [0, 1, 2, 3, 4, 5, 6, 7] rfl)
                      · have hf := iteN c147 hf
                        refine lv_iconst (v := 1) hx hb dX4_isFaithful_150 (by decide) ?_
                        refine lv_goto (tgt := 155) hx hb dX4_isFaithful_151 (by decide) ?_
                        exact J155 _ hf _ _ _ hP hS (lv_sub hl [0, 1, 2, 3, 4, 5, 6, 7] rfl)
                    refine lv_icmp_ne (tgt := 146) hx hb dX4_isFaithful_139 (by decide) (fun c139 => ?_) (fun c139 => ?_)
                    · have hf := iteT c139 hf
                      refine lv_iconst (v := 0) hx hb dX4_isFaithful_146 (by decide) ?_
                      exact J147 _ hf _ _ _ hP hS (lv_sub hl [0, 1, 2, 3, 4, 5, 6, 7] rfl)
                    · have hf := iteN c139 hf
                      refine lv_iconst (v := 1) hx hb dX4_isFaithful_142 (by decide) ?_
                      refine lv_goto (tgt := 147) hx hb dX4_isFaithful_143 (by decide) ?_
                      exact J147 _ hf _ _ _ hP hS (lv_sub hl [0, 1, 2, 3, 4, 5, 6, 7] rfl)
                  refine lv_icmp_ne (tgt := 135) hx hb dX4_isFaithful_128 (by decide) (fun c128 => ?_) (fun c128 => ?_)
                  · have hf := iteT c128 hf
                    refine lv_iconst (v := 0) hx hb dX4_isFaithful_135 (by decide) ?_
                    exact J136 _ hf _ _ _ hP hS (lv_sub hl [2, 3, 4, 5, 7, 8, 1, 0] rfl)
                  · have hf := iteN c128 hf
                    refine lv_iconst (v := 1) hx hb dX4_isFaithful_131 (by decide) ?_
                    refine lv_goto (tgt := 136) hx hb dX4_isFaithful_132 (by decide) ?_
                    exact J136 _ hf _ _ _ hP hS (lv_sub hl [2, 3, 4, 5, 7, 8, 1, 0] rfl)
  · have hf := iteF c21 hf
    refine lv_aload_n hx hb dX4_isFaithful_24 rfl (lv_at hl 1 rfl) ?_
    refine lv_iload_n hx hb dX4_isFaithful_25 rfl (lv_at hl 2 rfl) ?_
    refine lv_iconst (v := -1) hx hb dX4_isFaithful_26 (by decide) ?_
    obtain ⟨σ37, hσ37, hf⟩ := obw hf
    refine g_ast (a := 5) (len := 12) (f' := (mC cI cII κ σ37)) S hK hP hκ hA hS (by decide) (mC_arr (by decide) rfl) hσ37 (fun j _ => mC_as hσ37 (by decide) rfl j) dX4_isFaithful_27 (fun H locs hP hS => ?_)
    obtain ⟨v38, ev38, hf⟩ := letb_w hf
    refine lv_iinc (v := v38) (lv' := [(2, .int v38), (0, .ref (κ 0)), (1, .ref (κ 5))]) hx hb dX4_isFaithful_28 hl (k := 2) rfl (by rw [ev38]; rfl) (by decide) rfl (fun ls hl => ?_)
    refine lv_goto (tgt := 18) hx hb dX4_isFaithful_31 (by decide) ?_
    exact ih18 _ _ hf _ _ _ hP hS (lv_sub hl [1, 2, 0] rfl)
