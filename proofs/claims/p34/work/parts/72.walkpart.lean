/-! by wip/p34/gen.py: walks of loops behind news -/
set_option maxRecDepth 100000 in
set_option maxHeartbeats 4000000 in
theorem wk_X2_init {p : Program} {l : Launch} {e : Env} {R : Room} {s : State} {m : MethodId} {args : Array Value} {below : List Frame} {meth : Method} {c : Code} {H : Heap} {locs : List Loc} {cells slots : Nat} {Q : State → Prop} {ls : Array Slot} {A : Nat → Prop} {D : va_G} {cI cII : ClassId} {κ : Nat → Nat} {σ σ' : SX} (hκ : Inj 23 κ) (S : CallFix p m c cX2_init 3 s args wsX2_init RX2)
    (hK : KX D cI cII s) (hP : va_P D vwCl (gw 23 κ (sC cI cII κ σ)) H) (hA : ∀ k, k < 23 → A (κ k)) (hS : va_S A s.heap H locs) (hl : lv_has ls 3 [(0, .ref (κ 0))]) (hf : fw_X2_init σ = some σ')
    (kk : ∀ (H : Heap) (locs : List Loc) (ls : Array Slot) , va_P D vwCl (gw 23 κ (sC cI cII κ σ')) H → va_S A s.heap H locs → W p l e R s m args below meth c H locs cells slots Q (F0 m 90 ls [])) : W p l e R s m args below meth c H locs cells slots Q (F0 m 53 ls []) := by
  obtain ⟨hx, hb, hml, hown, hts⟩ := id S
  have hiX2 : ∀ w ∈ u_ws RX2 TX2 5, w ∈ wsX2_init := by decide +kernel
  unfold fw_X2_init at hf
  refine lv_iconst (v := 0) hx hb dX2_init_53 (by decide) ?_
  obtain ⟨v1, ev1, hf⟩ := letb_w hf
  refine lv_nmi ev1 ?_
  refine lv_istore_n (lv' := [(1, .int v1), (0, .ref (κ 0))]) hx hb dX2_init_54 rfl hl (by decide) rfl (fun ls hl => ?_)
  refine loopF_w (P := fun (g : Int32 → SX → Option (SX)) => ∀ (x1_55 : Int32) (σ_55 : SX), g x1_55 σ_55 = some σ' → ∀ (H : Heap) (locs : List Loc) (ls : Array Slot), va_P D vwCl (gw 23 κ (sC cI cII κ σ_55)) H → va_S (A) s.heap H locs → lv_has ls 3 [(0, .ref (κ 0)), (1, .int x1_55)] → W p l e R s m args below meth c H locs cells slots Q (F0 m 55 ls [])) (fun _ _ h => by simp at h) ?_ FU _ _ hf _ _ _ hP hS (lv_sub hl [1, 0] rfl)
  intro rec55 ih55 x1_55 σ_55 hf H locs ls hP hS hl
  unfold bd_X2_init_55 at hf
  refine lv_iload_n hx hb dX2_init_55 rfl (lv_at hl 1 rfl) ?_
  refine lv_bipush (v := 6) hx hb dX2_init_56 (by decide) ?_
  refine lv_icmp_ge (tgt := 90) hx hb dX2_init_58 (by decide) (fun c58 => ?_) (fun c58 => ?_)
  · have hf := iteT c58 hf
    obtain rfl := Option.some.inj hf
    exact kk _ _ _ hP hS
  · have hf := iteF c58 hf
    refine lv_iconst (v := 0) hx hb dX2_init_61 (by decide) ?_
    obtain ⟨v2, ev2, hf⟩ := letb_w hf
    refine lv_nmi ev2 ?_
    refine lv_istore_n (lv' := [(2, .int v2), (0, .ref (κ 0)), (1, .int x1_55)]) hx hb dX2_init_62 rfl hl (by decide) rfl (fun ls hl => ?_)
    refine loopF_w (P := fun (g : Int32 → SX → Option (SX)) => ∀ (x2_63 : Int32) (σ_63 : SX), g x2_63 σ_63 = some σ' → ∀ (H : Heap) (locs : List Loc) (ls : Array Slot), va_P D vwCl (gw 23 κ (sC cI cII κ σ_63)) H → va_S (A) s.heap H locs → lv_has ls 3 [(0, .ref (κ 0)), (1, .int x1_55), (2, .int x2_63)] → W p l e R s m args below meth c H locs cells slots Q (F0 m 63 ls [])) (fun _ _ h => by simp at h) ?_ FU _ _ hf _ _ _ hP hS (lv_sub hl [1, 2, 0] rfl)
    intro rec63 ih63 x2_63 σ_63 hf H locs ls hP hS hl
    unfold bd_X2_init_63 at hf
    refine lv_iload_n hx hb dX2_init_63 rfl (lv_at hl 2 rfl) ?_
    refine lv_bipush (v := 12) hx hb dX2_init_64 (by decide) ?_
    refine lv_icmp_ge (tgt := 84) hx hb dX2_init_66 (by decide) (fun c66 => ?_) (fun c66 => ?_)
    · have hf := iteT c66 hf
      obtain ⟨v3, ev3, hf⟩ := letb_w hf
      refine lv_iinc (v := v3) (lv' := [(1, .int v3), (0, .ref (κ 0)), (2, .int x2_63)]) hx hb dX2_init_84 hl (k := 1) rfl (by rw [ev3]; rfl) (by decide) rfl (fun ls hl => ?_)
      refine lv_goto (tgt := 55) hx hb dX2_init_87 (by decide) ?_
      exact ih55 _ _ hf _ _ _ hP hS (lv_sub hl [1, 0] rfl)
    · have hf := iteF c66 hf
      refine lv_aload_n hx hb dX2_init_69 rfl (lv_at hl 0 rfl) ?_
      refine g_get (q := 0) (ci := 2) (k := 1) (ref := RX2) (C := RX2) (T := TX2) (N := 5) (index := 17) (v := .ref (κ 1)) S hK hP hiX2 (by decide) rfl rfl (by decide) rfl (by decide +kernel) rfl dX2_init_70 ?_
      refine lv_iload_n hx hb dX2_init_73 rfl (lv_at hl 1 rfl) ?_
      obtain ⟨r4, hr4, hf⟩ := obw hf
      have br4 : r4 < 6 := (arow_w hr4).2.2
      refine g_aald (q := 1) (b := 2) S hK hP (by decide) rfl hr4 dX2_init_74 ?_
      refine lv_iload_n hx hb dX2_init_75 rfl (lv_at hl 2 rfl) ?_
      refine lv_iconst (v := -1) hx hb dX2_init_76 (by decide) ?_
      obtain ⟨σ5, hσ5, hf⟩ := obw hf
      refine g_ast (a := (2 + r4)) (len := 12) (f' := (sC cI cII κ σ5)) S hK hP hκ hA hS (by omega) (sC_arr (by omega) (sLen2 br4)) hσ5 (fun j _ => sC_as hσ5 (by omega) (sLen2 br4) j) dX2_init_77 (fun H locs hP hS => ?_)
      obtain ⟨v6, ev6, hf⟩ := letb_w hf
      refine lv_iinc (v := v6) (lv' := [(2, .int v6), (0, .ref (κ 0)), (1, .int x1_55)]) hx hb dX2_init_78 hl (k := 2) rfl (by rw [ev6]; rfl) (by decide) rfl (fun ls hl => ?_)
      refine lv_goto (tgt := 63) hx hb dX2_init_81 (by decide) ?_
      exact ih63 _ _ hf _ _ _ hP hS (lv_sub hl [1, 2, 0] rfl)
