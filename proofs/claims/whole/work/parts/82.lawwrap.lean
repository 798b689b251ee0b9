/-! 82: by wip/whole/genlaw.py: the calls of the class that may throw, as the law makes them -/
set_option maxRecDepth 100000 in
set_option maxHeartbeats 4000000 in
theorem lw_addState (l : Launch) (hst : l.stackTraces = false) (D : va_G) (cI cII cJ : ClassId) (κ : Nat → Nat) (hκ : Inj 31 κ) (o : Nat) (hne : ∀ k, k < 31 → κ k ≠ o) (σ : SX) (z : Int64) (sz : Nat) (R : Int32 ⊕ String) (σ' : SX) (kk : Int32) (z' : Int64) (hf : fn_X3_addState σ = some (R, σ')) (hw : WO1 exS R z kk z') :
    vx_Met l yL_addState wsL_addState ({ frames := 7, cells := 1, slots := 6, locals := 103 } : Room) (va_Pc [.ref (κ 0), .ref o] (lP D cI cII cJ κ o σ z sz)) (lQ D cI cII cJ κ o σ' z' kk sz) (lX κ o sz) 1 6 (lA κ o sz) := by
  refine t_enterH (cc := cL_addState) (maxL := 3) (ret := (some .int)) (hh := [(0, 8, 11, 13)]) (by decide) rfl (Nat.le_of_ble_eq_true rfl) ?_
  intro p e s m args below meth c ls S hr hlk htab hB hl
  have S : CallFix p m c cL_addState 3 s args wsL_addState RL := S
  obtain ⟨hsz, hP, hO, hK, hX, hZ, hJ, hN⟩ := hB
  have hl : lv_has ls 3 [(0, .ref (κ 0)), (1, .ref o)] := hl
  have hS : va_S (lA κ o sz) s.heap s.heap [] := va_S.rf
  have hA : ∀ k, k < 31 → lA κ o sz (κ k) := fun k hk => Or.inl (tA_in k hk)
  have hA2 : ∀ q, s.heap.size ≤ q → lA κ o sz q := fun q h => Or.inl (Or.inr (hsz ▸ h))
  have hAo : lA κ o sz o := Or.inr rfl
  obtain ⟨hx, hb, hml, hown, hts⟩ := id S
  refine lv_aload_n hx hb dL_addState_0 rfl (lv_at hl 1 rfl) ?_
  refine lv_iconst (v := 0) hx hb dL_addState_1 (by decide) ?_
  refine lv_aload_n hx hb dL_addState_2 rfl (lv_at hl 0 rfl) ?_
  refine w_calli (vx_runV (As := []) (rest := [.int 0, .ref o]) S (met_X3_addState l hst D cI cII κ hκ σ _ R σ' hf) (cwV 0 S.2.2.2.2 gL_addState_X3_addState rfl rfl rfl (by decide +kernel) ⟨Nat.le_of_ble_eq_true rfl, Nat.le_of_ble_eq_true rfl⟩) (t_preV (N := 3) (T := TX3) hK hX hZ hP hS (Nat.le_refl _) hA hA2 (by decide) rfl rfl) rfl rfl hl.1 rfl (lv_room (Nat.le_of_ble_eq_true rfl)) dL_addState_3 ⟨Nat.le_of_ble_eq_true rfl, Nat.le_of_ble_eq_true rfl⟩) hA hA2 hne hO hS (fun E ce q9 H locs hR hP hO hS hce hcv hcl => ?_) (fun v H locs hR hP hO hS => ?_)
  · obtain ⟨hE, hkk, hz⟩ := hw.resolve_left (fun ⟨v, hv, _⟩ => by rw [hR] at hv; cases hv)
    cases hR.symm.trans hE
    subst hkk
    subst hz
    refine vx_catch (own := RL) (E := exS) (name := exS) hown [] _ [] htab (fun w hw => absurd hw List.not_mem_nil) (by decide) (by decide) (S.2.2.2.2 (.classLink RL 13 exS) (by decide +kernel)) (va_Nw.use rfl hX.2.2.2.2.2.2.2.2.2.2.1) hce hcv hcl ?_
    refine lv_astore_n (lv' := [(2, .ref q9), (0, .ref (κ 0)), (1, .ref o)]) hx hb dL_addState_11 rfl hl (by decide) rfl (fun ls hl => ?_)
    refine lv_iconst (v := 1) hx hb dL_addState_12 (by decide) ?_
    exact w_iret S hr hlk hP hO hS rfl (Nat.le_of_ble_eq_true rfl) (Nat.le_of_ble_eq_true rfl) dL_addState_13
  · obtain ⟨w, hv, hkk, hz⟩ := hw.resolve_right (fun hv => by rw [hR] at hv; cases hv.1)
    cases hR.symm.trans hv
    subst hkk
    refine lv_i2l (v := v.toInt64) hx hb dL_addState_6 rfl ?_
    refine w_last S hJ hκ hA hAo hne hP hO hS dL_addState_7 (fun H locs hP hO hS => ?_)
    refine lv_goto (tgt := 14) hx hb dL_addState_8 (by decide) ?_
    refine lv_iconst (v := 0) hx hb dL_addState_14 (by decide) ?_
    subst hz
    exact w_iret S hr hlk hP hO hS rfl (Nat.le_of_ble_eq_true rfl) (Nat.le_of_ble_eq_true rfl) dL_addState_15

set_option maxRecDepth 100000 in
set_option maxHeartbeats 4000000 in
theorem lw_step (l : Launch) (hst : l.stackTraces = false) (D : va_G) (cI cII cJ : ClassId) (κ : Nat → Nat) (hκ : Inj 31 κ) (o : Nat) (hne : ∀ k, k < 31 → κ k ≠ o) (σ : SX) (p1 : Int32) (p2 : Int32) (p3 : Int32) (z : Int64) (sz : Nat) (R : Int32 ⊕ String) (σ' : SX) (kk : Int32) (z' : Int64) (hf : fn_X3_step σ p1 p2 p3 = some (R, σ')) (hw : WO1 exI R z kk z') :
    vx_Met l yL_step wsL_step ({ frames := 8, cells := 3, slots := 18, locals := 127 } : Room) (va_Pc [.ref (κ 0), .int p1, .int p2, .int p3, .ref o] (lP D cI cII cJ κ o σ z sz)) (lQ D cI cII cJ κ o σ' z' kk sz) (lX κ o sz) 3 18 (lA κ o sz) := by
  refine t_enterH (cc := cL_step) (maxL := 6) (ret := (some .int)) (hh := [(0, 12, 15, 19)]) (by decide) rfl (Nat.le_of_ble_eq_true rfl) ?_
  intro p e s m args below meth c ls S hr hlk htab hB hl
  have S : CallFix p m c cL_step 6 s args wsL_step RL := S
  obtain ⟨hsz, hP, hO, hK, hX, hZ, hJ, hN⟩ := hB
  have hl : lv_has ls 6 [(0, .ref (κ 0)), (1, .int p1), (2, .int p2), (3, .int p3), (4, .ref o)] := hl
  have hS : va_S (lA κ o sz) s.heap s.heap [] := va_S.rf
  have hA : ∀ k, k < 31 → lA κ o sz (κ k) := fun k hk => Or.inl (tA_in k hk)
  have hA2 : ∀ q, s.heap.size ≤ q → lA κ o sz q := fun q h => Or.inl (Or.inr (hsz ▸ h))
  have hAo : lA κ o sz o := Or.inr rfl
  obtain ⟨hx, hb, hml, hown, hts⟩ := id S
  refine lv_aload hx hb dL_step_0 (lv_at hl 4 rfl) ?_
  refine lv_iconst (v := 0) hx hb dL_step_2 (by decide) ?_
  refine lv_aload_n hx hb dL_step_3 rfl (lv_at hl 0 rfl) ?_
  refine lv_iload_n hx hb dL_step_4 rfl (lv_at hl 1 rfl) ?_
  refine lv_iload_n hx hb dL_step_5 rfl (lv_at hl 2 rfl) ?_
  refine lv_iload_n hx hb dL_step_6 rfl (lv_at hl 3 rfl) ?_
  refine w_calli (vx_runV (As := [.int p1, .int p2, .int p3]) (rest := [.int 0, .ref o]) S (met_X3_step l hst D cI cII κ hκ σ p1 p2 p3 _ R σ' hf) (cwV 3 S.2.2.2.2 gL_step_X3_step rfl rfl rfl (by decide +kernel) ⟨Nat.le_of_ble_eq_true rfl, Nat.le_of_ble_eq_true rfl⟩) (t_preV (N := 3) (T := TX3) hK hX hZ hP hS (Nat.le_refl _) hA hA2 (by decide) rfl rfl) rfl rfl hl.1 rfl (lv_room (Nat.le_of_ble_eq_true rfl)) dL_step_7 ⟨Nat.le_of_ble_eq_true rfl, Nat.le_of_ble_eq_true rfl⟩) hA hA2 hne hO hS (fun E ce q9 H locs hR hP hO hS hce hcv hcl => ?_) (fun v H locs hR hP hO hS => ?_)
  · obtain ⟨hE, hkk, hz⟩ := hw.resolve_left (fun ⟨v, hv, _⟩ => by rw [hR] at hv; cases hv)
    cases hR.symm.trans hE
    subst hkk
    subst hz
    refine vx_catch (own := RL) (E := exI) (name := exI) hown [] _ [] htab (fun w hw => absurd hw List.not_mem_nil) (by decide) (by decide) (S.2.2.2.2 (.classLink RL 19 exI) (by decide +kernel)) (va_Nw.use rfl hX.2.2.2.2.2.2.2.2.2.1) hce hcv hcl ?_
    refine lv_astore (lv' := [(5, .ref q9), (0, .ref (κ 0)), (1, .int p1), (2, .int p2), (3, .int p3), (4, .ref o)]) hx hb dL_step_15 hl (by decide) rfl (fun ls hl => ?_)
    refine lv_iconst (v := 1) hx hb dL_step_17 (by decide) ?_
    exact w_iret S hr hlk hP hO hS rfl (Nat.le_of_ble_eq_true rfl) (Nat.le_of_ble_eq_true rfl) dL_step_18
  · obtain ⟨w, hv, hkk, hz⟩ := hw.resolve_right (fun hv => by rw [hR] at hv; cases hv.1)
    cases hR.symm.trans hv
    subst hkk
    refine lv_i2l (v := v.toInt64) hx hb dL_step_10 rfl ?_
    refine w_last S hJ hκ hA hAo hne hP hO hS dL_step_11 (fun H locs hP hO hS => ?_)
    refine lv_goto (tgt := 19) hx hb dL_step_12 (by decide) ?_
    refine lv_iconst (v := 0) hx hb dL_step_19 (by decide) ?_
    subst hz
    exact w_iret S hr hlk hP hO hS rfl (Nat.le_of_ble_eq_true rfl) (Nat.le_of_ble_eq_true rfl) dL_step_20

set_option maxRecDepth 100000 in
set_option maxHeartbeats 4000000 in
theorem lw_unstep (l : Launch) (hst : l.stackTraces = false) (D : va_G) (cI cII cJ : ClassId) (κ : Nat → Nat) (hκ : Inj 31 κ) (o : Nat) (hne : ∀ k, k < 31 → κ k ≠ o) (σ : SX) (p1 : Int32) (p2 : Int32) (z : Int64) (sz : Nat) (R : Int32 ⊕ String) (σ' : SX) (kk : Int32) (z' : Int64) (hf : fn_X3_unstep σ p1 p2 = some (R, σ')) (hw : WOb exI R z kk z') :
    vx_Met l yL_unstep wsL_unstep ({ frames := 8, cells := 2, slots := 12, locals := 126 } : Room) (va_Pc [.ref (κ 0), .int p1, .int p2, .ref o] (lP D cI cII cJ κ o σ z sz)) (lQ D cI cII cJ κ o σ' z' kk sz) (lX κ o sz) 2 12 (lA κ o sz) := by
  refine t_enterH (cc := cL_unstep) (maxL := 5) (ret := (some .int)) (hh := [(0, 17, 20, 19)]) (by decide) rfl (Nat.le_of_ble_eq_true rfl) ?_
  intro p e s m args below meth c ls S hr hlk htab hB hl
  have S : CallFix p m c cL_unstep 5 s args wsL_unstep RL := S
  obtain ⟨hsz, hP, hO, hK, hX, hZ, hJ, hN⟩ := hB
  have hl : lv_has ls 5 [(0, .ref (κ 0)), (1, .int p1), (2, .int p2), (3, .ref o)] := hl
  have hS : va_S (lA κ o sz) s.heap s.heap [] := va_S.rf
  have hA : ∀ k, k < 31 → lA κ o sz (κ k) := fun k hk => Or.inl (tA_in k hk)
  have hA2 : ∀ q, s.heap.size ≤ q → lA κ o sz q := fun q h => Or.inl (Or.inr (hsz ▸ h))
  have hAo : lA κ o sz o := Or.inr rfl
  obtain ⟨hx, hb, hml, hown, hts⟩ := id S
  refine lv_aload_n hx hb dL_unstep_0 rfl (lv_at hl 3 rfl) ?_
  refine lv_iconst (v := 0) hx hb dL_unstep_1 (by decide) ?_
  refine lv_aload_n hx hb dL_unstep_2 rfl (lv_at hl 0 rfl) ?_
  refine lv_iload_n hx hb dL_unstep_3 rfl (lv_at hl 1 rfl) ?_
  refine lv_iload_n hx hb dL_unstep_4 rfl (lv_at hl 2 rfl) ?_
  refine w_calli (vx_runV (As := [.int p1, .int p2]) (rest := [.int 0, .ref o]) S (met_X3_unstep l hst D cI cII κ hκ σ p1 p2 _ R σ' hf) (cwV 2 S.2.2.2.2 gL_unstep_X3_unstep rfl rfl rfl (by decide +kernel) ⟨Nat.le_of_ble_eq_true rfl, Nat.le_of_ble_eq_true rfl⟩) (t_preV (N := 3) (T := TX3) hK hX hZ hP hS (Nat.le_refl _) hA hA2 (by decide) rfl rfl) rfl rfl hl.1 rfl (lv_room (Nat.le_of_ble_eq_true rfl)) dL_unstep_5 ⟨Nat.le_of_ble_eq_true rfl, Nat.le_of_ble_eq_true rfl⟩) hA hA2 hne hO hS (fun E ce q9 H locs hR hP hO hS hce hcv hcl => ?_) (fun v H locs hR hP hO hS => ?_)
  · obtain ⟨hE, hkk, hz⟩ := hw.resolve_left (fun ⟨v, hv, _⟩ => by rw [hR] at hv; cases hv)
    cases hR.symm.trans hE
    subst hkk
    subst hz
    refine vx_catch (own := RL) (E := exI) (name := exI) hown [] _ [] htab (fun w hw => absurd hw List.not_mem_nil) (by decide) (by decide) (S.2.2.2.2 (.classLink RL 19 exI) (by decide +kernel)) (va_Nw.use rfl hX.2.2.2.2.2.2.2.2.2.1) hce hcv hcl ?_
    refine lv_astore (lv' := [(4, .ref q9), (0, .ref (κ 0)), (1, .int p1), (2, .int p2), (3, .ref o)]) hx hb dL_unstep_20 hl (by decide) rfl (fun ls hl => ?_)
    refine lv_iconst (v := 1) hx hb dL_unstep_22 (by decide) ?_
    exact w_iret S hr hlk hP hO hS rfl (Nat.le_of_ble_eq_true rfl) (Nat.le_of_ble_eq_true rfl) dL_unstep_23
  · obtain ⟨w, hv, hkk, hz⟩ := hw.resolve_right (fun hv => by rw [hR] at hv; cases hv.1)
    cases hR.symm.trans hv
    subst hkk
    refine lv_if_eq (tgt := 15) hx hb dL_unstep_8 (by decide) (fun cz => ?_) (fun cz => ?_)
    · rw [if_pos cz] at hz
      refine lv_lconst (v := 0) hx hb dL_unstep_15 rfl ?_
      refine w_last S hJ hκ hA hAo hne hP hO hS dL_unstep_16 (fun H locs hP hO hS => ?_)
      refine lv_goto (tgt := 24) hx hb dL_unstep_17 (by decide) ?_
      refine lv_iconst (v := 0) hx hb dL_unstep_24 (by decide) ?_
      subst hz
      exact w_iret S hr hlk hP hO hS rfl (Nat.le_of_ble_eq_true rfl) (Nat.le_of_ble_eq_true rfl) dL_unstep_25
    · rw [if_neg cz] at hz
      refine lv_lconst (v := 1) hx hb dL_unstep_11 rfl ?_
      refine lv_goto (tgt := 16) hx hb dL_unstep_12 (by decide) ?_
      refine w_last S hJ hκ hA hAo hne hP hO hS dL_unstep_16 (fun H locs hP hO hS => ?_)
      refine lv_goto (tgt := 24) hx hb dL_unstep_17 (by decide) ?_
      refine lv_iconst (v := 0) hx hb dL_unstep_24 (by decide) ?_
      subst hz
      exact w_iret S hr hlk hP hO hS rfl (Nat.le_of_ble_eq_true rfl) (Nat.le_of_ble_eq_true rfl) dL_unstep_25

set_option maxRecDepth 100000 in
set_option maxHeartbeats 4000000 in
theorem lw_rename (l : Launch) (hst : l.stackTraces = false) (D : va_G) (cI cII cJ : ClassId) (κ : Nat → Nat) (hκ : Inj 31 κ) (o : Nat) (hne : ∀ k, k < 31 → κ k ≠ o) (σ : SX) (p1 : Int32) (p2 : Int32) (z : Int64) (sz : Nat) (R : Int32 ⊕ String) (σ' : SX) (kk : Int32) (z' : Int64) (hf : fn_X3_rename σ p1 p2 = some (R, σ')) (hw : WO2 exI exS R z kk z') :
    vx_Met l yL_rename wsL_rename ({ frames := 8, cells := 3, slots := 18, locals := 125 } : Room) (va_Pc [.ref (κ 0), .int p1, .int p2, .ref o] (lP D cI cII cJ κ o σ z sz)) (lQ D cI cII cJ κ o σ' z' kk sz) (lX κ o sz) 3 18 (lA κ o sz) := by
  refine t_enterH (cc := cL_rename) (maxL := 5) (ret := (some .int)) (hh := [(0, 10, 13, 19), (0, 10, 17, 13)]) (by decide) rfl (Nat.le_of_ble_eq_true rfl) ?_
  intro p e s m args below meth c ls S hr hlk htab hB hl
  have S : CallFix p m c cL_rename 5 s args wsL_rename RL := S
  obtain ⟨hsz, hP, hO, hK, hX, hZ, hJ, hN⟩ := hB
  have hl : lv_has ls 5 [(0, .ref (κ 0)), (1, .int p1), (2, .int p2), (3, .ref o)] := hl
  have hS : va_S (lA κ o sz) s.heap s.heap [] := va_S.rf
  have hA : ∀ k, k < 31 → lA κ o sz (κ k) := fun k hk => Or.inl (tA_in k hk)
  have hA2 : ∀ q, s.heap.size ≤ q → lA κ o sz q := fun q h => Or.inl (Or.inr (hsz ▸ h))
  have hAo : lA κ o sz o := Or.inr rfl
  obtain ⟨hx, hb, hml, hown, hts⟩ := id S
  refine lv_aload_n hx hb dL_rename_0 rfl (lv_at hl 3 rfl) ?_
  refine lv_iconst (v := 0) hx hb dL_rename_1 (by decide) ?_
  refine lv_aload_n hx hb dL_rename_2 rfl (lv_at hl 0 rfl) ?_
  refine lv_iload_n hx hb dL_rename_3 rfl (lv_at hl 1 rfl) ?_
  refine lv_iload_n hx hb dL_rename_4 rfl (lv_at hl 2 rfl) ?_
  refine w_calli (vx_runV (As := [.int p1, .int p2]) (rest := [.int 0, .ref o]) S (met_X3_rename l hst D cI cII κ hκ σ p1 p2 _ R σ' hf) (cwV 2 S.2.2.2.2 gL_rename_X3_rename rfl rfl rfl (by decide +kernel) ⟨Nat.le_of_ble_eq_true rfl, Nat.le_of_ble_eq_true rfl⟩) (t_preV (N := 3) (T := TX3) hK hX hZ hP hS (Nat.le_refl _) hA hA2 (by decide) rfl rfl) rfl rfl hl.1 rfl (lv_room (Nat.le_of_ble_eq_true rfl)) dL_rename_5 ⟨Nat.le_of_ble_eq_true rfl, Nat.le_of_ble_eq_true rfl⟩) hA hA2 hne hO hS (fun E ce q9 H locs hR hP hO hS hce hcv hcl => ?_) (fun v H locs hR hP hO hS => ?_)
  · rcases hw.resolve_left (fun ⟨v, hv, _⟩ => by rw [hR] at hv; cases hv) with ⟨hE, hkk, hz⟩ | ⟨hE, hkk, hz⟩
    · cases hR.symm.trans hE
      subst hkk
      subst hz
      refine vx_catch (own := RL) (E := exI) (name := exI) hown [] _ [_] htab (fun w hw => absurd hw List.not_mem_nil) (by decide) (by decide) (S.2.2.2.2 (.classLink RL 19 exI) (by decide +kernel)) (va_Nw.use rfl hX.2.2.2.2.2.2.2.2.2.1) hce hcv hcl ?_
      refine lv_astore (lv' := [(4, .ref q9), (0, .ref (κ 0)), (1, .int p1), (2, .int p2), (3, .ref o)]) hx hb dL_rename_13 hl (by decide) rfl (fun ls hl => ?_)
      refine lv_iconst (v := 1) hx hb dL_rename_15 (by decide) ?_
      exact w_iret S hr hlk hP hO hS rfl (Nat.le_of_ble_eq_true rfl) (Nat.le_of_ble_eq_true rfl) dL_rename_16
    · cases hR.symm.trans hE
      subst hkk
      subst hz
      refine vx_catch (own := RL) (E := exS) (name := exS) hown [_] _ [] htab (fun w hw => by rw [List.mem_singleton.mp hw]; exact Or.inr ⟨by decide, exI, S.2.2.2.2 (.classLink RL 19 exI) (by decide +kernel), hN.1⟩) (by decide) (by decide) (S.2.2.2.2 (.classLink RL 13 exS) (by decide +kernel)) (va_Nw.use rfl hX.2.2.2.2.2.2.2.2.2.2.1) hce hcv hcl ?_
      refine lv_astore (lv' := [(4, .ref q9), (0, .ref (κ 0)), (1, .int p1), (2, .int p2), (3, .ref o)]) hx hb dL_rename_17 hl (by decide) rfl (fun ls hl => ?_)
      refine lv_iconst (v := 2) hx hb dL_rename_19 (by decide) ?_
      exact w_iret S hr hlk hP hO hS rfl (Nat.le_of_ble_eq_true rfl) (Nat.le_of_ble_eq_true rfl) dL_rename_20
  · obtain ⟨w, hv, hkk, hz⟩ := hw.resolve_right (fun hv => hv.elim (fun hv => by rw [hR] at hv; cases hv.1) (fun hv => by rw [hR] at hv; cases hv.1))
    cases hR.symm.trans hv
    subst hkk
    refine lv_i2l (v := v.toInt64) hx hb dL_rename_8 rfl ?_
    refine w_last S hJ hκ hA hAo hne hP hO hS dL_rename_9 (fun H locs hP hO hS => ?_)
    refine lv_goto (tgt := 21) hx hb dL_rename_10 (by decide) ?_
    refine lv_iconst (v := 0) hx hb dL_rename_21 (by decide) ?_
    subst hz
    exact w_iret S hr hlk hP hO hS rfl (Nat.le_of_ble_eq_true rfl) (Nat.le_of_ble_eq_true rfl) dL_rename_22

set_option maxRecDepth 100000 in
set_option maxHeartbeats 4000000 in
theorem lw_target (l : Launch) (hst : l.stackTraces = false) (D : va_G) (cI cII cJ : ClassId) (κ : Nat → Nat) (hκ : Inj 31 κ) (o : Nat) (hne : ∀ k, k < 31 → κ k ≠ o) (σ : SX) (p1 : Int32) (p2 : Int32) (z : Int64) (sz : Nat) (R : Int32 ⊕ String) (σ' : SX) (kk : Int32) (z' : Int64) (hf : fn_X3_target σ p1 p2 = some (R, σ')) (hw : WO1 exI R z kk z') :
    vx_Met l yL_target wsL_target ({ frames := 8, cells := 2, slots := 12, locals := 125 } : Room) (va_Pc [.ref (κ 0), .int p1, .int p2, .ref o] (lP D cI cII cJ κ o σ z sz)) (lQ D cI cII cJ κ o σ' z' kk sz) (lX κ o sz) 2 12 (lA κ o sz) := by
  refine t_enterH (cc := cL_target) (maxL := 5) (ret := (some .int)) (hh := [(0, 10, 13, 19)]) (by decide) rfl (Nat.le_of_ble_eq_true rfl) ?_
  intro p e s m args below meth c ls S hr hlk htab hB hl
  have S : CallFix p m c cL_target 5 s args wsL_target RL := S
  obtain ⟨hsz, hP, hO, hK, hX, hZ, hJ, hN⟩ := hB
  have hl : lv_has ls 5 [(0, .ref (κ 0)), (1, .int p1), (2, .int p2), (3, .ref o)] := hl
  have hS : va_S (lA κ o sz) s.heap s.heap [] := va_S.rf
  have hA : ∀ k, k < 31 → lA κ o sz (κ k) := fun k hk => Or.inl (tA_in k hk)
  have hA2 : ∀ q, s.heap.size ≤ q → lA κ o sz q := fun q h => Or.inl (Or.inr (hsz ▸ h))
  have hAo : lA κ o sz o := Or.inr rfl
  obtain ⟨hx, hb, hml, hown, hts⟩ := id S
  refine lv_aload_n hx hb dL_target_0 rfl (lv_at hl 3 rfl) ?_
  refine lv_iconst (v := 0) hx hb dL_target_1 (by decide) ?_
  refine lv_aload_n hx hb dL_target_2 rfl (lv_at hl 0 rfl) ?_
  refine lv_iload_n hx hb dL_target_3 rfl (lv_at hl 1 rfl) ?_
  refine lv_iload_n hx hb dL_target_4 rfl (lv_at hl 2 rfl) ?_
  refine w_calli (vx_runV (As := [.int p1, .int p2]) (rest := [.int 0, .ref o]) S (met_X3_target l hst D cI cII κ hκ σ p1 p2 _ R σ' hf) (cwV 2 S.2.2.2.2 gL_target_X3_target rfl rfl rfl (by decide +kernel) ⟨Nat.le_of_ble_eq_true rfl, Nat.le_of_ble_eq_true rfl⟩) (t_preV (N := 3) (T := TX3) hK hX hZ hP hS (Nat.le_refl _) hA hA2 (by decide) rfl rfl) rfl rfl hl.1 rfl (lv_room (Nat.le_of_ble_eq_true rfl)) dL_target_5 ⟨Nat.le_of_ble_eq_true rfl, Nat.le_of_ble_eq_true rfl⟩) hA hA2 hne hO hS (fun E ce q9 H locs hR hP hO hS hce hcv hcl => ?_) (fun v H locs hR hP hO hS => ?_)
  · obtain ⟨hE, hkk, hz⟩ := hw.resolve_left (fun ⟨v, hv, _⟩ => by rw [hR] at hv; cases hv)
    cases hR.symm.trans hE
    subst hkk
    subst hz
    refine vx_catch (own := RL) (E := exI) (name := exI) hown [] _ [] htab (fun w hw => absurd hw List.not_mem_nil) (by decide) (by decide) (S.2.2.2.2 (.classLink RL 19 exI) (by decide +kernel)) (va_Nw.use rfl hX.2.2.2.2.2.2.2.2.2.1) hce hcv hcl ?_
    refine lv_astore (lv' := [(4, .ref q9), (0, .ref (κ 0)), (1, .int p1), (2, .int p2), (3, .ref o)]) hx hb dL_target_13 hl (by decide) rfl (fun ls hl => ?_)
    refine lv_iconst (v := 1) hx hb dL_target_15 (by decide) ?_
    exact w_iret S hr hlk hP hO hS rfl (Nat.le_of_ble_eq_true rfl) (Nat.le_of_ble_eq_true rfl) dL_target_16
  · obtain ⟨w, hv, hkk, hz⟩ := hw.resolve_right (fun hv => by rw [hR] at hv; cases hv.1)
    cases hR.symm.trans hv
    subst hkk
    refine lv_i2l (v := v.toInt64) hx hb dL_target_8 rfl ?_
    refine w_last S hJ hκ hA hAo hne hP hO hS dL_target_9 (fun H locs hP hO hS => ?_)
    refine lv_goto (tgt := 17) hx hb dL_target_10 (by decide) ?_
    refine lv_iconst (v := 0) hx hb dL_target_17 (by decide) ?_
    subst hz
    exact w_iret S hr hlk hP hO hS rfl (Nat.le_of_ble_eq_true rfl) (Nat.le_of_ble_eq_true rfl) dL_target_18

set_option maxRecDepth 100000 in
set_option maxHeartbeats 4000000 in
theorem lw_enabled (l : Launch) (hst : l.stackTraces = false) (D : va_G) (cI cII cJ : ClassId) (κ : Nat → Nat) (hκ : Inj 31 κ) (o : Nat) (hne : ∀ k, k < 31 → κ k ≠ o) (σ : SX) (p1 : Int32) (z : Int64) (sz : Nat) (R : Int32 ⊕ String) (σ' : SX) (kk : Int32) (z' : Int64) (hf : fn_X3_enabled σ p1 = some (R, σ')) (hw : WO1 exI R z kk z') :
    vx_Met l yL_enabled wsL_enabled ({ frames := 8, cells := 1, slots := 6, locals := 126 } : Room) (va_Pc [.ref (κ 0), .int p1, .ref o] (lP D cI cII cJ κ o σ z sz)) (lQ D cI cII cJ κ o σ' z' kk sz) (lX κ o sz) 1 6 (lA κ o sz) := by
  refine t_enterH (cc := cL_enabled) (maxL := 4) (ret := (some .int)) (hh := [(0, 9, 12, 19)]) (by decide) rfl (Nat.le_of_ble_eq_true rfl) ?_
  intro p e s m args below meth c ls S hr hlk htab hB hl
  have S : CallFix p m c cL_enabled 4 s args wsL_enabled RL := S
  obtain ⟨hsz, hP, hO, hK, hX, hZ, hJ, hN⟩ := hB
  have hl : lv_has ls 4 [(0, .ref (κ 0)), (1, .int p1), (2, .ref o)] := hl
  have hS : va_S (lA κ o sz) s.heap s.heap [] := va_S.rf
  have hA : ∀ k, k < 31 → lA κ o sz (κ k) := fun k hk => Or.inl (tA_in k hk)
  have hA2 : ∀ q, s.heap.size ≤ q → lA κ o sz q := fun q h => Or.inl (Or.inr (hsz ▸ h))
  have hAo : lA κ o sz o := Or.inr rfl
  obtain ⟨hx, hb, hml, hown, hts⟩ := id S
  refine lv_aload_n hx hb dL_enabled_0 rfl (lv_at hl 2 rfl) ?_
  refine lv_iconst (v := 0) hx hb dL_enabled_1 (by decide) ?_
  refine lv_aload_n hx hb dL_enabled_2 rfl (lv_at hl 0 rfl) ?_
  refine lv_iload_n hx hb dL_enabled_3 rfl (lv_at hl 1 rfl) ?_
  refine w_calli (vx_runV (As := [.int p1]) (rest := [.int 0, .ref o]) S (met_X3_enabled l hst D cI cII κ hκ σ p1 _ R σ' hf) (cwV 1 S.2.2.2.2 gL_enabled_X3_enabled rfl rfl rfl (by decide +kernel) ⟨Nat.le_of_ble_eq_true rfl, Nat.le_of_ble_eq_true rfl⟩) (t_preV (N := 3) (T := TX3) hK hX hZ hP hS (Nat.le_refl _) hA hA2 (by decide) rfl rfl) rfl rfl hl.1 rfl (lv_room (Nat.le_of_ble_eq_true rfl)) dL_enabled_4 ⟨Nat.le_of_ble_eq_true rfl, Nat.le_of_ble_eq_true rfl⟩) hA hA2 hne hO hS (fun E ce q9 H locs hR hP hO hS hce hcv hcl => ?_) (fun v H locs hR hP hO hS => ?_)
  · obtain ⟨hE, hkk, hz⟩ := hw.resolve_left (fun ⟨v, hv, _⟩ => by rw [hR] at hv; cases hv)
    cases hR.symm.trans hE
    subst hkk
    subst hz
    refine vx_catch (own := RL) (E := exI) (name := exI) hown [] _ [] htab (fun w hw => absurd hw List.not_mem_nil) (by decide) (by decide) (S.2.2.2.2 (.classLink RL 19 exI) (by decide +kernel)) (va_Nw.use rfl hX.2.2.2.2.2.2.2.2.2.1) hce hcv hcl ?_
    refine lv_astore_n (lv' := [(3, .ref q9), (0, .ref (κ 0)), (1, .int p1), (2, .ref o)]) hx hb dL_enabled_12 rfl hl (by decide) rfl (fun ls hl => ?_)
    refine lv_iconst (v := 1) hx hb dL_enabled_13 (by decide) ?_
    exact w_iret S hr hlk hP hO hS rfl (Nat.le_of_ble_eq_true rfl) (Nat.le_of_ble_eq_true rfl) dL_enabled_14
  · obtain ⟨w, hv, hkk, hz⟩ := hw.resolve_right (fun hv => by rw [hR] at hv; cases hv.1)
    cases hR.symm.trans hv
    subst hkk
    refine lv_i2l (v := v.toInt64) hx hb dL_enabled_7 rfl ?_
    refine w_last S hJ hκ hA hAo hne hP hO hS dL_enabled_8 (fun H locs hP hO hS => ?_)
    refine lv_goto (tgt := 15) hx hb dL_enabled_9 (by decide) ?_
    refine lv_iconst (v := 0) hx hb dL_enabled_15 (by decide) ?_
    subst hz
    exact w_iret S hr hlk hP hO hS rfl (Nat.le_of_ble_eq_true rfl) (Nat.le_of_ble_eq_true rfl) dL_enabled_16

set_option maxRecDepth 100000 in
set_option maxHeartbeats 4000000 in
theorem lw_distance (l : Launch) (hst : l.stackTraces = false) (D : va_G) (cI cII cJ : ClassId) (κ : Nat → Nat) (hκ : Inj 31 κ) (o : Nat) (hne : ∀ k, k < 31 → κ k ≠ o) (σ : SX) (p1 : Int32) (z : Int64) (sz : Nat) (R : Int32 ⊕ String) (σ' : SX) (kk : Int32) (z' : Int64) (hf : fn_X3_distance σ p1 = some (R, σ')) (hw : WO1 exI R z kk z') :
    vx_Met l yL_distance wsL_distance ({ frames := 8, cells := 1, slots := 6, locals := 124 } : Room) (va_Pc [.ref (κ 0), .int p1, .ref o] (lP D cI cII cJ κ o σ z sz)) (lQ D cI cII cJ κ o σ' z' kk sz) (lX κ o sz) 1 6 (lA κ o sz) := by
  refine t_enterH (cc := cL_distance) (maxL := 4) (ret := (some .int)) (hh := [(0, 9, 12, 19)]) (by decide) rfl (Nat.le_of_ble_eq_true rfl) ?_
  intro p e s m args below meth c ls S hr hlk htab hB hl
  have S : CallFix p m c cL_distance 4 s args wsL_distance RL := S
  obtain ⟨hsz, hP, hO, hK, hX, hZ, hJ, hN⟩ := hB
  have hl : lv_has ls 4 [(0, .ref (κ 0)), (1, .int p1), (2, .ref o)] := hl
  have hS : va_S (lA κ o sz) s.heap s.heap [] := va_S.rf
  have hA : ∀ k, k < 31 → lA κ o sz (κ k) := fun k hk => Or.inl (tA_in k hk)
  have hA2 : ∀ q, s.heap.size ≤ q → lA κ o sz q := fun q h => Or.inl (Or.inr (hsz ▸ h))
  have hAo : lA κ o sz o := Or.inr rfl
  obtain ⟨hx, hb, hml, hown, hts⟩ := id S
  refine lv_aload_n hx hb dL_distance_0 rfl (lv_at hl 2 rfl) ?_
  refine lv_iconst (v := 0) hx hb dL_distance_1 (by decide) ?_
  refine lv_aload_n hx hb dL_distance_2 rfl (lv_at hl 0 rfl) ?_
  refine lv_iload_n hx hb dL_distance_3 rfl (lv_at hl 1 rfl) ?_
  refine w_calli (vx_runV (As := [.int p1]) (rest := [.int 0, .ref o]) S (met_X3_distance l hst D cI cII κ hκ σ p1 _ R σ' hf) (cwV 1 S.2.2.2.2 gL_distance_X3_distance rfl rfl rfl (by decide +kernel) ⟨Nat.le_of_ble_eq_true rfl, Nat.le_of_ble_eq_true rfl⟩) (t_preV (N := 3) (T := TX3) hK hX hZ hP hS (Nat.le_refl _) hA hA2 (by decide) rfl rfl) rfl rfl hl.1 rfl (lv_room (Nat.le_of_ble_eq_true rfl)) dL_distance_4 ⟨Nat.le_of_ble_eq_true rfl, Nat.le_of_ble_eq_true rfl⟩) hA hA2 hne hO hS (fun E ce q9 H locs hR hP hO hS hce hcv hcl => ?_) (fun v H locs hR hP hO hS => ?_)
  · obtain ⟨hE, hkk, hz⟩ := hw.resolve_left (fun ⟨v, hv, _⟩ => by rw [hR] at hv; cases hv)
    cases hR.symm.trans hE
    subst hkk
    subst hz
    refine vx_catch (own := RL) (E := exI) (name := exI) hown [] _ [] htab (fun w hw => absurd hw List.not_mem_nil) (by decide) (by decide) (S.2.2.2.2 (.classLink RL 19 exI) (by decide +kernel)) (va_Nw.use rfl hX.2.2.2.2.2.2.2.2.2.1) hce hcv hcl ?_
    refine lv_astore_n (lv' := [(3, .ref q9), (0, .ref (κ 0)), (1, .int p1), (2, .ref o)]) hx hb dL_distance_12 rfl hl (by decide) rfl (fun ls hl => ?_)
    refine lv_iconst (v := 1) hx hb dL_distance_13 (by decide) ?_
    exact w_iret S hr hlk hP hO hS rfl (Nat.le_of_ble_eq_true rfl) (Nat.le_of_ble_eq_true rfl) dL_distance_14
  · obtain ⟨w, hv, hkk, hz⟩ := hw.resolve_right (fun hv => by rw [hR] at hv; cases hv.1)
    cases hR.symm.trans hv
    subst hkk
    refine lv_i2l (v := v.toInt64) hx hb dL_distance_7 rfl ?_
    refine w_last S hJ hκ hA hAo hne hP hO hS dL_distance_8 (fun H locs hP hO hS => ?_)
    refine lv_goto (tgt := 15) hx hb dL_distance_9 (by decide) ?_
    refine lv_iconst (v := 0) hx hb dL_distance_15 (by decide) ?_
    subst hz
    exact w_iret S hr hlk hP hO hS rfl (Nat.le_of_ble_eq_true rfl) (Nat.le_of_ble_eq_true rfl) dL_distance_16

set_option maxRecDepth 100000 in
set_option maxHeartbeats 4000000 in
theorem lw_crossing (l : Launch) (hst : l.stackTraces = false) (D : va_G) (cI cII cJ : ClassId) (κ : Nat → Nat) (hκ : Inj 31 κ) (o : Nat) (hne : ∀ k, k < 31 → κ k ≠ o) (σ : SX) (p1 : Int32) (p2 : Int32) (z : Int64) (sz : Nat) (R : Int32 ⊕ String) (σ' : SX) (kk : Int32) (z' : Int64) (hf : fn_X3_crossing σ p1 p2 = some (R, σ')) (hw : WO2 exA exI R z kk z') :
    vx_Met l yL_crossing wsL_crossing ({ frames := 8, cells := 2, slots := 12, locals := 125 } : Room) (va_Pc [.ref (κ 0), .int p1, .int p2, .ref o] (lP D cI cII cJ κ o σ z sz)) (lQ D cI cII cJ κ o σ' z' kk sz) (lX κ o sz) 2 12 (lA κ o sz) := by
  refine t_enterH (cc := cL_crossing) (maxL := 5) (ret := (some .int)) (hh := [(0, 10, 13, 42), (0, 10, 17, 19)]) (by decide) rfl (Nat.le_of_ble_eq_true rfl) ?_
  intro p e s m args below meth c ls S hr hlk htab hB hl
  have S : CallFix p m c cL_crossing 5 s args wsL_crossing RL := S
  obtain ⟨hsz, hP, hO, hK, hX, hZ, hJ, hN⟩ := hB
  have hl : lv_has ls 5 [(0, .ref (κ 0)), (1, .int p1), (2, .int p2), (3, .ref o)] := hl
  have hS : va_S (lA κ o sz) s.heap s.heap [] := va_S.rf
  have hA : ∀ k, k < 31 → lA κ o sz (κ k) := fun k hk => Or.inl (tA_in k hk)
  have hA2 : ∀ q, s.heap.size ≤ q → lA κ o sz q := fun q h => Or.inl (Or.inr (hsz ▸ h))
  have hAo : lA κ o sz o := Or.inr rfl
  obtain ⟨hx, hb, hml, hown, hts⟩ := id S
  refine lv_aload_n hx hb dL_crossing_0 rfl (lv_at hl 3 rfl) ?_
  refine lv_iconst (v := 0) hx hb dL_crossing_1 (by decide) ?_
  refine lv_aload_n hx hb dL_crossing_2 rfl (lv_at hl 0 rfl) ?_
  refine lv_iload_n hx hb dL_crossing_3 rfl (lv_at hl 1 rfl) ?_
  refine lv_iload_n hx hb dL_crossing_4 rfl (lv_at hl 2 rfl) ?_
  refine w_calli (vx_runV (As := [.int p1, .int p2]) (rest := [.int 0, .ref o]) S (met_X3_crossing l hst D cI cII κ hκ σ p1 p2 _ R σ' hf) (cwV 2 S.2.2.2.2 gL_crossing_X3_crossing rfl rfl rfl (by decide +kernel) ⟨Nat.le_of_ble_eq_true rfl, Nat.le_of_ble_eq_true rfl⟩) (t_preV (N := 3) (T := TX3) hK hX hZ hP hS (Nat.le_refl _) hA hA2 (by decide) rfl rfl) rfl rfl hl.1 rfl (lv_room (Nat.le_of_ble_eq_true rfl)) dL_crossing_5 ⟨Nat.le_of_ble_eq_true rfl, Nat.le_of_ble_eq_true rfl⟩) hA hA2 hne hO hS (fun E ce q9 H locs hR hP hO hS hce hcv hcl => ?_) (fun v H locs hR hP hO hS => ?_)
  · rcases hw.resolve_left (fun ⟨v, hv, _⟩ => by rw [hR] at hv; cases hv) with ⟨hE, hkk, hz⟩ | ⟨hE, hkk, hz⟩
    · cases hR.symm.trans hE
      subst hkk
      subst hz
      refine vx_catch (own := RL) (E := exA) (name := exA) hown [] _ [_] htab (fun w hw => absurd hw List.not_mem_nil) (by decide) (by decide) (S.2.2.2.2 (.classLink RL 42 exA) (by decide +kernel)) (va_Nw.use rfl hX.2.2.2.2.2.2.2.2.2.2.2.1) hce hcv hcl ?_
      refine lv_astore (lv' := [(4, .ref q9), (0, .ref (κ 0)), (1, .int p1), (2, .int p2), (3, .ref o)]) hx hb dL_crossing_13 hl (by decide) rfl (fun ls hl => ?_)
      refine lv_iconst (v := 1) hx hb dL_crossing_15 (by decide) ?_
      exact w_iret S hr hlk hP hO hS rfl (Nat.le_of_ble_eq_true rfl) (Nat.le_of_ble_eq_true rfl) dL_crossing_16
    · cases hR.symm.trans hE
      subst hkk
      subst hz
      refine vx_catch (own := RL) (E := exI) (name := exI) hown [_] _ [] htab (fun w hw => by rw [List.mem_singleton.mp hw]; exact Or.inr ⟨by decide, exA, S.2.2.2.2 (.classLink RL 42 exA) (by decide +kernel), hN.2.1⟩) (by decide) (by decide) (S.2.2.2.2 (.classLink RL 19 exI) (by decide +kernel)) (va_Nw.use rfl hX.2.2.2.2.2.2.2.2.2.1) hce hcv hcl ?_
      refine lv_astore (lv' := [(4, .ref q9), (0, .ref (κ 0)), (1, .int p1), (2, .int p2), (3, .ref o)]) hx hb dL_crossing_17 hl (by decide) rfl (fun ls hl => ?_)
      refine lv_iconst (v := 2) hx hb dL_crossing_19 (by decide) ?_
      exact w_iret S hr hlk hP hO hS rfl (Nat.le_of_ble_eq_true rfl) (Nat.le_of_ble_eq_true rfl) dL_crossing_20
  · obtain ⟨w, hv, hkk, hz⟩ := hw.resolve_right (fun hv => hv.elim (fun hv => by rw [hR] at hv; cases hv.1) (fun hv => by rw [hR] at hv; cases hv.1))
    cases hR.symm.trans hv
    subst hkk
    refine lv_i2l (v := v.toInt64) hx hb dL_crossing_8 rfl ?_
    refine w_last S hJ hκ hA hAo hne hP hO hS dL_crossing_9 (fun H locs hP hO hS => ?_)
    refine lv_goto (tgt := 21) hx hb dL_crossing_10 (by decide) ?_
    refine lv_iconst (v := 0) hx hb dL_crossing_21 (by decide) ?_
    subst hz
    exact w_iret S hr hlk hP hO hS rfl (Nat.le_of_ble_eq_true rfl) (Nat.le_of_ble_eq_true rfl) dL_crossing_22

set_option maxRecDepth 100000 in
set_option maxHeartbeats 4000000 in
theorem lw_isRegion (l : Launch) (hst : l.stackTraces = false) (D : va_G) (cI cII cJ : ClassId) (κ : Nat → Nat) (hκ : Inj 31 κ) (o : Nat) (hne : ∀ k, k < 31 → κ k ≠ o) (σ : SX) (p1 : Int32) (z : Int64) (sz : Nat) (R : Int32 ⊕ String) (σ' : SX) (kk : Int32) (z' : Int64) (hf : fn_X3_isRegion σ p1 = some (R, σ')) (hw : WOb exA R z kk z') :
    vx_Met l yL_isRegion wsL_isRegion ({ frames := 8, cells := 1, slots := 6, locals := 124 } : Room) (va_Pc [.ref (κ 0), .int p1, .ref o] (lP D cI cII cJ κ o σ z sz)) (lQ D cI cII cJ κ o σ' z' kk sz) (lX κ o sz) 1 6 (lA κ o sz) := by
  refine t_enterH (cc := cL_isRegion) (maxL := 4) (ret := (some .int)) (hh := [(0, 16, 19, 42)]) (by decide) rfl (Nat.le_of_ble_eq_true rfl) ?_
  intro p e s m args below meth c ls S hr hlk htab hB hl
  have S : CallFix p m c cL_isRegion 4 s args wsL_isRegion RL := S
  obtain ⟨hsz, hP, hO, hK, hX, hZ, hJ, hN⟩ := hB
  have hl : lv_has ls 4 [(0, .ref (κ 0)), (1, .int p1), (2, .ref o)] := hl
  have hS : va_S (lA κ o sz) s.heap s.heap [] := va_S.rf
  have hA : ∀ k, k < 31 → lA κ o sz (κ k) := fun k hk => Or.inl (tA_in k hk)
  have hA2 : ∀ q, s.heap.size ≤ q → lA κ o sz q := fun q h => Or.inl (Or.inr (hsz ▸ h))
  have hAo : lA κ o sz o := Or.inr rfl
  obtain ⟨hx, hb, hml, hown, hts⟩ := id S
  refine lv_aload_n hx hb dL_isRegion_0 rfl (lv_at hl 2 rfl) ?_
  refine lv_iconst (v := 0) hx hb dL_isRegion_1 (by decide) ?_
  refine lv_aload_n hx hb dL_isRegion_2 rfl (lv_at hl 0 rfl) ?_
  refine lv_iload_n hx hb dL_isRegion_3 rfl (lv_at hl 1 rfl) ?_
  refine w_calli (vx_runV (As := [.int p1]) (rest := [.int 0, .ref o]) S (met_X3_isRegion l hst D cI cII κ hκ σ p1 _ R σ' hf) (cwV 1 S.2.2.2.2 gL_isRegion_X3_isRegion rfl rfl rfl (by decide +kernel) ⟨Nat.le_of_ble_eq_true rfl, Nat.le_of_ble_eq_true rfl⟩) (t_preV (N := 3) (T := TX3) hK hX hZ hP hS (Nat.le_refl _) hA hA2 (by decide) rfl rfl) rfl rfl hl.1 rfl (lv_room (Nat.le_of_ble_eq_true rfl)) dL_isRegion_4 ⟨Nat.le_of_ble_eq_true rfl, Nat.le_of_ble_eq_true rfl⟩) hA hA2 hne hO hS (fun E ce q9 H locs hR hP hO hS hce hcv hcl => ?_) (fun v H locs hR hP hO hS => ?_)
  · obtain ⟨hE, hkk, hz⟩ := hw.resolve_left (fun ⟨v, hv, _⟩ => by rw [hR] at hv; cases hv)
    cases hR.symm.trans hE
    subst hkk
    subst hz
    refine vx_catch (own := RL) (E := exA) (name := exA) hown [] _ [] htab (fun w hw => absurd hw List.not_mem_nil) (by decide) (by decide) (S.2.2.2.2 (.classLink RL 42 exA) (by decide +kernel)) (va_Nw.use rfl hX.2.2.2.2.2.2.2.2.2.2.2.1) hce hcv hcl ?_
    refine lv_astore_n (lv' := [(3, .ref q9), (0, .ref (κ 0)), (1, .int p1), (2, .ref o)]) hx hb dL_isRegion_19 rfl hl (by decide) rfl (fun ls hl => ?_)
    refine lv_iconst (v := 1) hx hb dL_isRegion_20 (by decide) ?_
    exact w_iret S hr hlk hP hO hS rfl (Nat.le_of_ble_eq_true rfl) (Nat.le_of_ble_eq_true rfl) dL_isRegion_21
  · obtain ⟨w, hv, hkk, hz⟩ := hw.resolve_right (fun hv => by rw [hR] at hv; cases hv.1)
    cases hR.symm.trans hv
    subst hkk
    refine lv_if_eq (tgt := 14) hx hb dL_isRegion_7 (by decide) (fun cz => ?_) (fun cz => ?_)
    · rw [if_pos cz] at hz
      refine lv_lconst (v := 0) hx hb dL_isRegion_14 rfl ?_
      refine w_last S hJ hκ hA hAo hne hP hO hS dL_isRegion_15 (fun H locs hP hO hS => ?_)
      refine lv_goto (tgt := 22) hx hb dL_isRegion_16 (by decide) ?_
      refine lv_iconst (v := 0) hx hb dL_isRegion_22 (by decide) ?_
      subst hz
      exact w_iret S hr hlk hP hO hS rfl (Nat.le_of_ble_eq_true rfl) (Nat.le_of_ble_eq_true rfl) dL_isRegion_23
    · rw [if_neg cz] at hz
      refine lv_lconst (v := 1) hx hb dL_isRegion_10 rfl ?_
      refine lv_goto (tgt := 15) hx hb dL_isRegion_11 (by decide) ?_
      refine w_last S hJ hκ hA hAo hne hP hO hS dL_isRegion_15 (fun H locs hP hO hS => ?_)
      refine lv_goto (tgt := 22) hx hb dL_isRegion_16 (by decide) ?_
      refine lv_iconst (v := 0) hx hb dL_isRegion_22 (by decide) ?_
      subst hz
      exact w_iret S hr hlk hP hO hS rfl (Nat.le_of_ble_eq_true rfl) (Nat.le_of_ble_eq_true rfl) dL_isRegion_23

set_option maxRecDepth 100000 in
set_option maxHeartbeats 4000000 in
theorem lw_region (l : Launch) (hst : l.stackTraces = false) (D : va_G) (cI cII cJ : ClassId) (κ : Nat → Nat) (hκ : Inj 31 κ) (o : Nat) (hne : ∀ k, k < 31 → κ k ≠ o) (σ : SX) (p1 : Int32) (z : Int64) (sz : Nat) (R : Int32 ⊕ String) (σ' : SX) (kk : Int32) (z' : Int64) (hf : fn_X3_region σ p1 = some (R, σ')) (hw : WO1 exI R z kk z') :
    vx_Met l yL_region wsL_region ({ frames := 8, cells := 1, slots := 6, locals := 153 } : Room) (va_Pc [.ref (κ 0), .int p1, .ref o] (lP D cI cII cJ κ o σ z sz)) (lQ D cI cII cJ κ o σ' z' kk sz) (lX κ o sz) 1 6 (lA κ o sz) := by
  refine t_enterH (cc := cL_region) (maxL := 4) (ret := (some .int)) (hh := [(0, 9, 12, 19)]) (by decide) rfl (Nat.le_of_ble_eq_true rfl) ?_
  intro p e s m args below meth c ls S hr hlk htab hB hl
  have S : CallFix p m c cL_region 4 s args wsL_region RL := S
  obtain ⟨hsz, hP, hO, hK, hX, hZ, hJ, hN⟩ := hB
  have hl : lv_has ls 4 [(0, .ref (κ 0)), (1, .int p1), (2, .ref o)] := hl
  have hS : va_S (lA κ o sz) s.heap s.heap [] := va_S.rf
  have hA : ∀ k, k < 31 → lA κ o sz (κ k) := fun k hk => Or.inl (tA_in k hk)
  have hA2 : ∀ q, s.heap.size ≤ q → lA κ o sz q := fun q h => Or.inl (Or.inr (hsz ▸ h))
  have hAo : lA κ o sz o := Or.inr rfl
  obtain ⟨hx, hb, hml, hown, hts⟩ := id S
  refine lv_aload_n hx hb dL_region_0 rfl (lv_at hl 2 rfl) ?_
  refine lv_iconst (v := 0) hx hb dL_region_1 (by decide) ?_
  refine lv_aload_n hx hb dL_region_2 rfl (lv_at hl 0 rfl) ?_
  refine lv_iload_n hx hb dL_region_3 rfl (lv_at hl 1 rfl) ?_
  refine w_calli (vx_runV (As := [.int p1]) (rest := [.int 0, .ref o]) S (met_X3_region l hst D cI cII κ hκ σ p1 _ R σ' hf) (cwV 1 S.2.2.2.2 gL_region_X3_region rfl rfl rfl (by decide +kernel) ⟨Nat.le_of_ble_eq_true rfl, Nat.le_of_ble_eq_true rfl⟩) (t_preV (N := 3) (T := TX3) hK hX hZ hP hS (Nat.le_refl _) hA hA2 (by decide) rfl rfl) rfl rfl hl.1 rfl (lv_room (Nat.le_of_ble_eq_true rfl)) dL_region_4 ⟨Nat.le_of_ble_eq_true rfl, Nat.le_of_ble_eq_true rfl⟩) hA hA2 hne hO hS (fun E ce q9 H locs hR hP hO hS hce hcv hcl => ?_) (fun v H locs hR hP hO hS => ?_)
  · obtain ⟨hE, hkk, hz⟩ := hw.resolve_left (fun ⟨v, hv, _⟩ => by rw [hR] at hv; cases hv)
    cases hR.symm.trans hE
    subst hkk
    subst hz
    refine vx_catch (own := RL) (E := exI) (name := exI) hown [] _ [] htab (fun w hw => absurd hw List.not_mem_nil) (by decide) (by decide) (S.2.2.2.2 (.classLink RL 19 exI) (by decide +kernel)) (va_Nw.use rfl hX.2.2.2.2.2.2.2.2.2.1) hce hcv hcl ?_
    refine lv_astore_n (lv' := [(3, .ref q9), (0, .ref (κ 0)), (1, .int p1), (2, .ref o)]) hx hb dL_region_12 rfl hl (by decide) rfl (fun ls hl => ?_)
    refine lv_iconst (v := 1) hx hb dL_region_13 (by decide) ?_
    exact w_iret S hr hlk hP hO hS rfl (Nat.le_of_ble_eq_true rfl) (Nat.le_of_ble_eq_true rfl) dL_region_14
  · obtain ⟨w, hv, hkk, hz⟩ := hw.resolve_right (fun hv => by rw [hR] at hv; cases hv.1)
    cases hR.symm.trans hv
    subst hkk
    refine lv_i2l (v := v.toInt64) hx hb dL_region_7 rfl ?_
    refine w_last S hJ hκ hA hAo hne hP hO hS dL_region_8 (fun H locs hP hO hS => ?_)
    refine lv_goto (tgt := 15) hx hb dL_region_9 (by decide) ?_
    refine lv_iconst (v := 0) hx hb dL_region_15 (by decide) ?_
    subst hz
    exact w_iret S hr hlk hP hO hS rfl (Nat.le_of_ble_eq_true rfl) (Nat.le_of_ble_eq_true rfl) dL_region_16

set_option maxRecDepth 100000 in
set_option maxHeartbeats 4000000 in
theorem lw_isLeast (l : Launch) (hst : l.stackTraces = false) (D : va_G) (cI cII cJ : ClassId) (κ : Nat → Nat) (hκ : Inj 31 κ) (o : Nat) (hne : ∀ k, k < 31 → κ k ≠ o) (σ : SX) (p1 : Int32) (z : Int64) (sz : Nat) (R : Int32 ⊕ String) (σ' : SX) (kk : Int32) (z' : Int64) (hf : fn_X3_isLeast σ p1 = some (R, σ')) (hw : WOb exI R z kk z') :
    vx_Met l yL_isLeast wsL_isLeast ({ frames := 8, cells := 1, slots := 6, locals := 153 } : Room) (va_Pc [.ref (κ 0), .int p1, .ref o] (lP D cI cII cJ κ o σ z sz)) (lQ D cI cII cJ κ o σ' z' kk sz) (lX κ o sz) 1 6 (lA κ o sz) := by
  refine t_enterH (cc := cL_isLeast) (maxL := 4) (ret := (some .int)) (hh := [(0, 16, 19, 19)]) (by decide) rfl (Nat.le_of_ble_eq_true rfl) ?_
  intro p e s m args below meth c ls S hr hlk htab hB hl
  have S : CallFix p m c cL_isLeast 4 s args wsL_isLeast RL := S
  obtain ⟨hsz, hP, hO, hK, hX, hZ, hJ, hN⟩ := hB
  have hl : lv_has ls 4 [(0, .ref (κ 0)), (1, .int p1), (2, .ref o)] := hl
  have hS : va_S (lA κ o sz) s.heap s.heap [] := va_S.rf
  have hA : ∀ k, k < 31 → lA κ o sz (κ k) := fun k hk => Or.inl (tA_in k hk)
  have hA2 : ∀ q, s.heap.size ≤ q → lA κ o sz q := fun q h => Or.inl (Or.inr (hsz ▸ h))
  have hAo : lA κ o sz o := Or.inr rfl
  obtain ⟨hx, hb, hml, hown, hts⟩ := id S
  refine lv_aload_n hx hb dL_isLeast_0 rfl (lv_at hl 2 rfl) ?_
  refine lv_iconst (v := 0) hx hb dL_isLeast_1 (by decide) ?_
  refine lv_aload_n hx hb dL_isLeast_2 rfl (lv_at hl 0 rfl) ?_
  refine lv_iload_n hx hb dL_isLeast_3 rfl (lv_at hl 1 rfl) ?_
  refine w_calli (vx_runV (As := [.int p1]) (rest := [.int 0, .ref o]) S (met_X3_isLeast l hst D cI cII κ hκ σ p1 _ R σ' hf) (cwV 1 S.2.2.2.2 gL_isLeast_X3_isLeast rfl rfl rfl (by decide +kernel) ⟨Nat.le_of_ble_eq_true rfl, Nat.le_of_ble_eq_true rfl⟩) (t_preV (N := 3) (T := TX3) hK hX hZ hP hS (Nat.le_refl _) hA hA2 (by decide) rfl rfl) rfl rfl hl.1 rfl (lv_room (Nat.le_of_ble_eq_true rfl)) dL_isLeast_4 ⟨Nat.le_of_ble_eq_true rfl, Nat.le_of_ble_eq_true rfl⟩) hA hA2 hne hO hS (fun E ce q9 H locs hR hP hO hS hce hcv hcl => ?_) (fun v H locs hR hP hO hS => ?_)
  · obtain ⟨hE, hkk, hz⟩ := hw.resolve_left (fun ⟨v, hv, _⟩ => by rw [hR] at hv; cases hv)
    cases hR.symm.trans hE
    subst hkk
    subst hz
    refine vx_catch (own := RL) (E := exI) (name := exI) hown [] _ [] htab (fun w hw => absurd hw List.not_mem_nil) (by decide) (by decide) (S.2.2.2.2 (.classLink RL 19 exI) (by decide +kernel)) (va_Nw.use rfl hX.2.2.2.2.2.2.2.2.2.1) hce hcv hcl ?_
    refine lv_astore_n (lv' := [(3, .ref q9), (0, .ref (κ 0)), (1, .int p1), (2, .ref o)]) hx hb dL_isLeast_19 rfl hl (by decide) rfl (fun ls hl => ?_)
    refine lv_iconst (v := 1) hx hb dL_isLeast_20 (by decide) ?_
    exact w_iret S hr hlk hP hO hS rfl (Nat.le_of_ble_eq_true rfl) (Nat.le_of_ble_eq_true rfl) dL_isLeast_21
  · obtain ⟨w, hv, hkk, hz⟩ := hw.resolve_right (fun hv => by rw [hR] at hv; cases hv.1)
    cases hR.symm.trans hv
    subst hkk
    refine lv_if_eq (tgt := 14) hx hb dL_isLeast_7 (by decide) (fun cz => ?_) (fun cz => ?_)
    · rw [if_pos cz] at hz
      refine lv_lconst (v := 0) hx hb dL_isLeast_14 rfl ?_
      refine w_last S hJ hκ hA hAo hne hP hO hS dL_isLeast_15 (fun H locs hP hO hS => ?_)
      refine lv_goto (tgt := 22) hx hb dL_isLeast_16 (by decide) ?_
      refine lv_iconst (v := 0) hx hb dL_isLeast_22 (by decide) ?_
      subst hz
      exact w_iret S hr hlk hP hO hS rfl (Nat.le_of_ble_eq_true rfl) (Nat.le_of_ble_eq_true rfl) dL_isLeast_23
    · rw [if_neg cz] at hz
      refine lv_lconst (v := 1) hx hb dL_isLeast_10 rfl ?_
      refine lv_goto (tgt := 15) hx hb dL_isLeast_11 (by decide) ?_
      refine w_last S hJ hκ hA hAo hne hP hO hS dL_isLeast_15 (fun H locs hP hO hS => ?_)
      refine lv_goto (tgt := 22) hx hb dL_isLeast_16 (by decide) ?_
      refine lv_iconst (v := 0) hx hb dL_isLeast_22 (by decide) ?_
      subst hz
      exact w_iret S hr hlk hP hO hS rfl (Nat.le_of_ble_eq_true rfl) (Nat.le_of_ble_eq_true rfl) dL_isLeast_23

set_option maxRecDepth 100000 in
set_option maxHeartbeats 4000000 in
theorem lw_grow (l : Launch) (hst : l.stackTraces = false) (D : va_G) (cI cII cJ : ClassId) (κ : Nat → Nat) (hκ : Inj 31 κ) (o : Nat) (hne : ∀ k, k < 31 → κ k ≠ o) (σ : SX) (p1 : Int32) (z : Int64) (sz : Nat) (R : Int32 ⊕ String) (σ' : SX) (kk : Int32) (z' : Int64) (hf : fn_X3_grow σ p1 = some (R, σ')) (hw : WO1 exA R z kk z') :
    vx_Met l yL_grow wsL_grow ({ frames := 8, cells := 1, slots := 6, locals := 124 } : Room) (va_Pc [.ref (κ 0), .int p1, .ref o] (lP D cI cII cJ κ o σ z sz)) (lQ D cI cII cJ κ o σ' z' kk sz) (lX κ o sz) 1 6 (lA κ o sz) := by
  refine t_enterH (cc := cL_grow) (maxL := 4) (ret := (some .int)) (hh := [(0, 9, 12, 42)]) (by decide) rfl (Nat.le_of_ble_eq_true rfl) ?_
  intro p e s m args below meth c ls S hr hlk htab hB hl
  have S : CallFix p m c cL_grow 4 s args wsL_grow RL := S
  obtain ⟨hsz, hP, hO, hK, hX, hZ, hJ, hN⟩ := hB
  have hl : lv_has ls 4 [(0, .ref (κ 0)), (1, .int p1), (2, .ref o)] := hl
  have hS : va_S (lA κ o sz) s.heap s.heap [] := va_S.rf
  have hA : ∀ k, k < 31 → lA κ o sz (κ k) := fun k hk => Or.inl (tA_in k hk)
  have hA2 : ∀ q, s.heap.size ≤ q → lA κ o sz q := fun q h => Or.inl (Or.inr (hsz ▸ h))
  have hAo : lA κ o sz o := Or.inr rfl
  obtain ⟨hx, hb, hml, hown, hts⟩ := id S
  refine lv_aload_n hx hb dL_grow_0 rfl (lv_at hl 2 rfl) ?_
  refine lv_iconst (v := 0) hx hb dL_grow_1 (by decide) ?_
  refine lv_aload_n hx hb dL_grow_2 rfl (lv_at hl 0 rfl) ?_
  refine lv_iload_n hx hb dL_grow_3 rfl (lv_at hl 1 rfl) ?_
  refine w_calli (vx_runV (As := [.int p1]) (rest := [.int 0, .ref o]) S (met_X3_grow l hst D cI cII κ hκ σ p1 _ R σ' hf) (cwV 1 S.2.2.2.2 gL_grow_X3_grow rfl rfl rfl (by decide +kernel) ⟨Nat.le_of_ble_eq_true rfl, Nat.le_of_ble_eq_true rfl⟩) (t_preV (N := 3) (T := TX3) hK hX hZ hP hS (Nat.le_refl _) hA hA2 (by decide) rfl rfl) rfl rfl hl.1 rfl (lv_room (Nat.le_of_ble_eq_true rfl)) dL_grow_4 ⟨Nat.le_of_ble_eq_true rfl, Nat.le_of_ble_eq_true rfl⟩) hA hA2 hne hO hS (fun E ce q9 H locs hR hP hO hS hce hcv hcl => ?_) (fun v H locs hR hP hO hS => ?_)
  · obtain ⟨hE, hkk, hz⟩ := hw.resolve_left (fun ⟨v, hv, _⟩ => by rw [hR] at hv; cases hv)
    cases hR.symm.trans hE
    subst hkk
    subst hz
    refine vx_catch (own := RL) (E := exA) (name := exA) hown [] _ [] htab (fun w hw => absurd hw List.not_mem_nil) (by decide) (by decide) (S.2.2.2.2 (.classLink RL 42 exA) (by decide +kernel)) (va_Nw.use rfl hX.2.2.2.2.2.2.2.2.2.2.2.1) hce hcv hcl ?_
    refine lv_astore_n (lv' := [(3, .ref q9), (0, .ref (κ 0)), (1, .int p1), (2, .ref o)]) hx hb dL_grow_12 rfl hl (by decide) rfl (fun ls hl => ?_)
    refine lv_iconst (v := 1) hx hb dL_grow_13 (by decide) ?_
    exact w_iret S hr hlk hP hO hS rfl (Nat.le_of_ble_eq_true rfl) (Nat.le_of_ble_eq_true rfl) dL_grow_14
  · obtain ⟨w, hv, hkk, hz⟩ := hw.resolve_right (fun hv => by rw [hR] at hv; cases hv.1)
    cases hR.symm.trans hv
    subst hkk
    refine lv_i2l (v := v.toInt64) hx hb dL_grow_7 rfl ?_
    refine w_last S hJ hκ hA hAo hne hP hO hS dL_grow_8 (fun H locs hP hO hS => ?_)
    refine lv_goto (tgt := 15) hx hb dL_grow_9 (by decide) ?_
    refine lv_iconst (v := 0) hx hb dL_grow_15 (by decide) ?_
    subst hz
    exact w_iret S hr hlk hP hO hS rfl (Nat.le_of_ble_eq_true rfl) (Nat.le_of_ble_eq_true rfl) dL_grow_16

set_option maxRecDepth 100000 in
set_option maxHeartbeats 4000000 in
theorem lw_apart (l : Launch) (hst : l.stackTraces = false) (D : va_G) (cI cII cJ : ClassId) (κ : Nat → Nat) (hκ : Inj 31 κ) (o : Nat) (hne : ∀ k, k < 31 → κ k ≠ o) (σ : SX) (p1 : Int32) (p2 : Int32) (z : Int64) (sz : Nat) (R : Int32 ⊕ String) (σ' : SX) (kk : Int32) (z' : Int64) (hf : fn_X3_apart σ p1 p2 = some (R, σ')) (hw : WO1 exI R z kk z') :
    vx_Met l yL_apart wsL_apart ({ frames := 8, cells := 2, slots := 12, locals := 157 } : Room) (va_Pc [.ref (κ 0), .int p1, .int p2, .ref o] (lP D cI cII cJ κ o σ z sz)) (lQ D cI cII cJ κ o σ' z' kk sz) (lX κ o sz) 2 12 (lA κ o sz) := by
  refine t_enterH (cc := cL_apart) (maxL := 5) (ret := (some .int)) (hh := [(0, 10, 13, 19)]) (by decide) rfl (Nat.le_of_ble_eq_true rfl) ?_
  intro p e s m args below meth c ls S hr hlk htab hB hl
  have S : CallFix p m c cL_apart 5 s args wsL_apart RL := S
  obtain ⟨hsz, hP, hO, hK, hX, hZ, hJ, hN⟩ := hB
  have hl : lv_has ls 5 [(0, .ref (κ 0)), (1, .int p1), (2, .int p2), (3, .ref o)] := hl
  have hS : va_S (lA κ o sz) s.heap s.heap [] := va_S.rf
  have hA : ∀ k, k < 31 → lA κ o sz (κ k) := fun k hk => Or.inl (tA_in k hk)
  have hA2 : ∀ q, s.heap.size ≤ q → lA κ o sz q := fun q h => Or.inl (Or.inr (hsz ▸ h))
  have hAo : lA κ o sz o := Or.inr rfl
  obtain ⟨hx, hb, hml, hown, hts⟩ := id S
  refine lv_aload_n hx hb dL_apart_0 rfl (lv_at hl 3 rfl) ?_
  refine lv_iconst (v := 0) hx hb dL_apart_1 (by decide) ?_
  refine lv_aload_n hx hb dL_apart_2 rfl (lv_at hl 0 rfl) ?_
  refine lv_iload_n hx hb dL_apart_3 rfl (lv_at hl 1 rfl) ?_
  refine lv_iload_n hx hb dL_apart_4 rfl (lv_at hl 2 rfl) ?_
  refine w_calli (vx_runV (As := [.int p1, .int p2]) (rest := [.int 0, .ref o]) S (met_X3_apart l hst D cI cII κ hκ σ p1 p2 _ R σ' hf) (cwV 2 S.2.2.2.2 gL_apart_X3_apart rfl rfl rfl (by decide +kernel) ⟨Nat.le_of_ble_eq_true rfl, Nat.le_of_ble_eq_true rfl⟩) (t_preV (N := 3) (T := TX3) hK hX hZ hP hS (Nat.le_refl _) hA hA2 (by decide) rfl rfl) rfl rfl hl.1 rfl (lv_room (Nat.le_of_ble_eq_true rfl)) dL_apart_5 ⟨Nat.le_of_ble_eq_true rfl, Nat.le_of_ble_eq_true rfl⟩) hA hA2 hne hO hS (fun E ce q9 H locs hR hP hO hS hce hcv hcl => ?_) (fun v H locs hR hP hO hS => ?_)
  · obtain ⟨hE, hkk, hz⟩ := hw.resolve_left (fun ⟨v, hv, _⟩ => by rw [hR] at hv; cases hv)
    cases hR.symm.trans hE
    subst hkk
    subst hz
    refine vx_catch (own := RL) (E := exI) (name := exI) hown [] _ [] htab (fun w hw => absurd hw List.not_mem_nil) (by decide) (by decide) (S.2.2.2.2 (.classLink RL 19 exI) (by decide +kernel)) (va_Nw.use rfl hX.2.2.2.2.2.2.2.2.2.1) hce hcv hcl ?_
    refine lv_astore (lv' := [(4, .ref q9), (0, .ref (κ 0)), (1, .int p1), (2, .int p2), (3, .ref o)]) hx hb dL_apart_13 hl (by decide) rfl (fun ls hl => ?_)
    refine lv_iconst (v := 1) hx hb dL_apart_15 (by decide) ?_
    exact w_iret S hr hlk hP hO hS rfl (Nat.le_of_ble_eq_true rfl) (Nat.le_of_ble_eq_true rfl) dL_apart_16
  · obtain ⟨w, hv, hkk, hz⟩ := hw.resolve_right (fun hv => by rw [hR] at hv; cases hv.1)
    cases hR.symm.trans hv
    subst hkk
    refine lv_i2l (v := v.toInt64) hx hb dL_apart_8 rfl ?_
    refine w_last S hJ hκ hA hAo hne hP hO hS dL_apart_9 (fun H locs hP hO hS => ?_)
    refine lv_goto (tgt := 17) hx hb dL_apart_10 (by decide) ?_
    refine lv_iconst (v := 0) hx hb dL_apart_17 (by decide) ?_
    subst hz
    exact w_iret S hr hlk hP hO hS rfl (Nat.le_of_ble_eq_true rfl) (Nat.le_of_ble_eq_true rfl) dL_apart_18

set_option maxRecDepth 100000 in
set_option maxHeartbeats 4000000 in
theorem lw_preventer (l : Launch) (hst : l.stackTraces = false) (D : va_G) (cI cII cJ : ClassId) (κ : Nat → Nat) (hκ : Inj 31 κ) (o : Nat) (hne : ∀ k, k < 31 → κ k ≠ o) (σ : SX) (p1 : Int32) (p2 : Int32) (z : Int64) (sz : Nat) (R : Int32 ⊕ String) (σ' : SX) (kk : Int32) (z' : Int64) (hf : fn_X3_preventer σ p1 p2 = some (R, σ')) (hw : WO1 exI R z kk z') :
    vx_Met l yL_preventer wsL_preventer ({ frames := 8, cells := 2, slots := 12, locals := 157 } : Room) (va_Pc [.ref (κ 0), .int p1, .int p2, .ref o] (lP D cI cII cJ κ o σ z sz)) (lQ D cI cII cJ κ o σ' z' kk sz) (lX κ o sz) 2 12 (lA κ o sz) := by
  refine t_enterH (cc := cL_preventer) (maxL := 5) (ret := (some .int)) (hh := [(0, 10, 13, 19)]) (by decide) rfl (Nat.le_of_ble_eq_true rfl) ?_
  intro p e s m args below meth c ls S hr hlk htab hB hl
  have S : CallFix p m c cL_preventer 5 s args wsL_preventer RL := S
  obtain ⟨hsz, hP, hO, hK, hX, hZ, hJ, hN⟩ := hB
  have hl : lv_has ls 5 [(0, .ref (κ 0)), (1, .int p1), (2, .int p2), (3, .ref o)] := hl
  have hS : va_S (lA κ o sz) s.heap s.heap [] := va_S.rf
  have hA : ∀ k, k < 31 → lA κ o sz (κ k) := fun k hk => Or.inl (tA_in k hk)
  have hA2 : ∀ q, s.heap.size ≤ q → lA κ o sz q := fun q h => Or.inl (Or.inr (hsz ▸ h))
  have hAo : lA κ o sz o := Or.inr rfl
  obtain ⟨hx, hb, hml, hown, hts⟩ := id S
  refine lv_aload_n hx hb dL_preventer_0 rfl (lv_at hl 3 rfl) ?_
  refine lv_iconst (v := 0) hx hb dL_preventer_1 (by decide) ?_
  refine lv_aload_n hx hb dL_preventer_2 rfl (lv_at hl 0 rfl) ?_
  refine lv_iload_n hx hb dL_preventer_3 rfl (lv_at hl 1 rfl) ?_
  refine lv_iload_n hx hb dL_preventer_4 rfl (lv_at hl 2 rfl) ?_
  refine w_calli (vx_runV (As := [.int p1, .int p2]) (rest := [.int 0, .ref o]) S (met_X3_preventer l hst D cI cII κ hκ σ p1 p2 _ R σ' hf) (cwV 2 S.2.2.2.2 gL_preventer_X3_preventer rfl rfl rfl (by decide +kernel) ⟨Nat.le_of_ble_eq_true rfl, Nat.le_of_ble_eq_true rfl⟩) (t_preV (N := 3) (T := TX3) hK hX hZ hP hS (Nat.le_refl _) hA hA2 (by decide) rfl rfl) rfl rfl hl.1 rfl (lv_room (Nat.le_of_ble_eq_true rfl)) dL_preventer_5 ⟨Nat.le_of_ble_eq_true rfl, Nat.le_of_ble_eq_true rfl⟩) hA hA2 hne hO hS (fun E ce q9 H locs hR hP hO hS hce hcv hcl => ?_) (fun v H locs hR hP hO hS => ?_)
  · obtain ⟨hE, hkk, hz⟩ := hw.resolve_left (fun ⟨v, hv, _⟩ => by rw [hR] at hv; cases hv)
    cases hR.symm.trans hE
    subst hkk
    subst hz
    refine vx_catch (own := RL) (E := exI) (name := exI) hown [] _ [] htab (fun w hw => absurd hw List.not_mem_nil) (by decide) (by decide) (S.2.2.2.2 (.classLink RL 19 exI) (by decide +kernel)) (va_Nw.use rfl hX.2.2.2.2.2.2.2.2.2.1) hce hcv hcl ?_
    refine lv_astore (lv' := [(4, .ref q9), (0, .ref (κ 0)), (1, .int p1), (2, .int p2), (3, .ref o)]) hx hb dL_preventer_13 hl (by decide) rfl (fun ls hl => ?_)
    refine lv_iconst (v := 1) hx hb dL_preventer_15 (by decide) ?_
    exact w_iret S hr hlk hP hO hS rfl (Nat.le_of_ble_eq_true rfl) (Nat.le_of_ble_eq_true rfl) dL_preventer_16
  · obtain ⟨w, hv, hkk, hz⟩ := hw.resolve_right (fun hv => by rw [hR] at hv; cases hv.1)
    cases hR.symm.trans hv
    subst hkk
    refine lv_i2l (v := v.toInt64) hx hb dL_preventer_8 rfl ?_
    refine w_last S hJ hκ hA hAo hne hP hO hS dL_preventer_9 (fun H locs hP hO hS => ?_)
    refine lv_goto (tgt := 17) hx hb dL_preventer_10 (by decide) ?_
    refine lv_iconst (v := 0) hx hb dL_preventer_17 (by decide) ?_
    subst hz
    exact w_iret S hr hlk hP hO hS rfl (Nat.le_of_ble_eq_true rfl) (Nat.le_of_ble_eq_true rfl) dL_preventer_18

set_option maxRecDepth 100000 in
set_option maxHeartbeats 4000000 in
theorem lw_placeRegion (l : Launch) (hst : l.stackTraces = false) (D : va_G) (cI cII cJ : ClassId) (κ : Nat → Nat) (hκ : Inj 31 κ) (o : Nat) (hne : ∀ k, k < 31 → κ k ≠ o) (σ : SX) (p1 : Int32) (z : Int64) (sz : Nat) (R : Int32 ⊕ String) (σ' : SX) (kk : Int32) (z' : Int64) (hf : fn_X3_placeRegion σ p1 = some (R, σ')) (hw : WO2 exS exI R z kk z') :
    vx_Met l yL_placeRegion wsL_placeRegion ({ frames := 8, cells := 2, slots := 12, locals := 123 } : Room) (va_Pc [.ref (κ 0), .int p1, .ref o] (lP D cI cII cJ κ o σ z sz)) (lQ D cI cII cJ κ o σ' z' kk sz) (lX κ o sz) 2 12 (lA κ o sz) := by
  refine t_enterH (cc := cL_placeRegion) (maxL := 4) (ret := (some .int)) (hh := [(0, 9, 12, 13), (0, 9, 15, 19)]) (by decide) rfl (Nat.le_of_ble_eq_true rfl) ?_
  intro p e s m args below meth c ls S hr hlk htab hB hl
  have S : CallFix p m c cL_placeRegion 4 s args wsL_placeRegion RL := S
  obtain ⟨hsz, hP, hO, hK, hX, hZ, hJ, hN⟩ := hB
  have hl : lv_has ls 4 [(0, .ref (κ 0)), (1, .int p1), (2, .ref o)] := hl
  have hS : va_S (lA κ o sz) s.heap s.heap [] := va_S.rf
  have hA : ∀ k, k < 31 → lA κ o sz (κ k) := fun k hk => Or.inl (tA_in k hk)
  have hA2 : ∀ q, s.heap.size ≤ q → lA κ o sz q := fun q h => Or.inl (Or.inr (hsz ▸ h))
  have hAo : lA κ o sz o := Or.inr rfl
  obtain ⟨hx, hb, hml, hown, hts⟩ := id S
  refine lv_aload_n hx hb dL_placeRegion_0 rfl (lv_at hl 2 rfl) ?_
  refine lv_iconst (v := 0) hx hb dL_placeRegion_1 (by decide) ?_
  refine lv_aload_n hx hb dL_placeRegion_2 rfl (lv_at hl 0 rfl) ?_
  refine lv_iload_n hx hb dL_placeRegion_3 rfl (lv_at hl 1 rfl) ?_
  refine w_calli (vx_runV (As := [.int p1]) (rest := [.int 0, .ref o]) S (met_X3_placeRegion l hst D cI cII κ hκ σ p1 _ R σ' hf) (cwV 1 S.2.2.2.2 gL_placeRegion_X3_placeRegion rfl rfl rfl (by decide +kernel) ⟨Nat.le_of_ble_eq_true rfl, Nat.le_of_ble_eq_true rfl⟩) (t_preV (N := 3) (T := TX3) hK hX hZ hP hS (Nat.le_refl _) hA hA2 (by decide) rfl rfl) rfl rfl hl.1 rfl (lv_room (Nat.le_of_ble_eq_true rfl)) dL_placeRegion_4 ⟨Nat.le_of_ble_eq_true rfl, Nat.le_of_ble_eq_true rfl⟩) hA hA2 hne hO hS (fun E ce q9 H locs hR hP hO hS hce hcv hcl => ?_) (fun v H locs hR hP hO hS => ?_)
  · rcases hw.resolve_left (fun ⟨v, hv, _⟩ => by rw [hR] at hv; cases hv) with ⟨hE, hkk, hz⟩ | ⟨hE, hkk, hz⟩
    · cases hR.symm.trans hE
      subst hkk
      subst hz
      refine vx_catch (own := RL) (E := exS) (name := exS) hown [] _ [_] htab (fun w hw => absurd hw List.not_mem_nil) (by decide) (by decide) (S.2.2.2.2 (.classLink RL 13 exS) (by decide +kernel)) (va_Nw.use rfl hX.2.2.2.2.2.2.2.2.2.2.1) hce hcv hcl ?_
      refine lv_astore_n (lv' := [(3, .ref q9), (0, .ref (κ 0)), (1, .int p1), (2, .ref o)]) hx hb dL_placeRegion_12 rfl hl (by decide) rfl (fun ls hl => ?_)
      refine lv_iconst (v := 1) hx hb dL_placeRegion_13 (by decide) ?_
      exact w_iret S hr hlk hP hO hS rfl (Nat.le_of_ble_eq_true rfl) (Nat.le_of_ble_eq_true rfl) dL_placeRegion_14
    · cases hR.symm.trans hE
      subst hkk
      subst hz
      refine vx_catch (own := RL) (E := exI) (name := exI) hown [_] _ [] htab (fun w hw => by rw [List.mem_singleton.mp hw]; exact Or.inr ⟨by decide, exS, S.2.2.2.2 (.classLink RL 13 exS) (by decide +kernel), hN.2.2⟩) (by decide) (by decide) (S.2.2.2.2 (.classLink RL 19 exI) (by decide +kernel)) (va_Nw.use rfl hX.2.2.2.2.2.2.2.2.2.1) hce hcv hcl ?_
      refine lv_astore_n (lv' := [(3, .ref q9), (0, .ref (κ 0)), (1, .int p1), (2, .ref o)]) hx hb dL_placeRegion_15 rfl hl (by decide) rfl (fun ls hl => ?_)
      refine lv_iconst (v := 2) hx hb dL_placeRegion_16 (by decide) ?_
      exact w_iret S hr hlk hP hO hS rfl (Nat.le_of_ble_eq_true rfl) (Nat.le_of_ble_eq_true rfl) dL_placeRegion_17
  · obtain ⟨w, hv, hkk, hz⟩ := hw.resolve_right (fun hv => hv.elim (fun hv => by rw [hR] at hv; cases hv.1) (fun hv => by rw [hR] at hv; cases hv.1))
    cases hR.symm.trans hv
    subst hkk
    refine lv_i2l (v := v.toInt64) hx hb dL_placeRegion_7 rfl ?_
    refine w_last S hJ hκ hA hAo hne hP hO hS dL_placeRegion_8 (fun H locs hP hO hS => ?_)
    refine lv_goto (tgt := 18) hx hb dL_placeRegion_9 (by decide) ?_
    refine lv_iconst (v := 0) hx hb dL_placeRegion_18 (by decide) ?_
    subst hz
    exact w_iret S hr hlk hP hO hS rfl (Nat.le_of_ble_eq_true rfl) (Nat.le_of_ble_eq_true rfl) dL_placeRegion_19

set_option maxRecDepth 100000 in
set_option maxHeartbeats 4000000 in
theorem lw_consumed (l : Launch) (hst : l.stackTraces = false) (D : va_G) (cI cII cJ : ClassId) (κ : Nat → Nat) (hκ : Inj 31 κ) (o : Nat) (hne : ∀ k, k < 31 → κ k ≠ o) (σ : SX) (p1 : Int32) (z : Int64) (sz : Nat) (R : Int32 ⊕ String) (σ' : SX) (kk : Int32) (z' : Int64) (hf : fn_X3_consumed σ p1 = some (R, σ')) (hw : WO2 exS exI R z kk z') :
    vx_Met l yL_consumed wsL_consumed ({ frames := 8, cells := 2, slots := 12, locals := 123 } : Room) (va_Pc [.ref (κ 0), .int p1, .ref o] (lP D cI cII cJ κ o σ z sz)) (lQ D cI cII cJ κ o σ' z' kk sz) (lX κ o sz) 2 12 (lA κ o sz) := by
  refine t_enterH (cc := cL_consumed) (maxL := 4) (ret := (some .int)) (hh := [(0, 9, 12, 13), (0, 9, 15, 19)]) (by decide) rfl (Nat.le_of_ble_eq_true rfl) ?_
  intro p e s m args below meth c ls S hr hlk htab hB hl
  have S : CallFix p m c cL_consumed 4 s args wsL_consumed RL := S
  obtain ⟨hsz, hP, hO, hK, hX, hZ, hJ, hN⟩ := hB
  have hl : lv_has ls 4 [(0, .ref (κ 0)), (1, .int p1), (2, .ref o)] := hl
  have hS : va_S (lA κ o sz) s.heap s.heap [] := va_S.rf
  have hA : ∀ k, k < 31 → lA κ o sz (κ k) := fun k hk => Or.inl (tA_in k hk)
  have hA2 : ∀ q, s.heap.size ≤ q → lA κ o sz q := fun q h => Or.inl (Or.inr (hsz ▸ h))
  have hAo : lA κ o sz o := Or.inr rfl
  obtain ⟨hx, hb, hml, hown, hts⟩ := id S
  refine lv_aload_n hx hb dL_consumed_0 rfl (lv_at hl 2 rfl) ?_
  refine lv_iconst (v := 0) hx hb dL_consumed_1 (by decide) ?_
  refine lv_aload_n hx hb dL_consumed_2 rfl (lv_at hl 0 rfl) ?_
  refine lv_iload_n hx hb dL_consumed_3 rfl (lv_at hl 1 rfl) ?_
  refine w_calli (vx_runV (As := [.int p1]) (rest := [.int 0, .ref o]) S (met_X3_consumed l hst D cI cII κ hκ σ p1 _ R σ' hf) (cwV 1 S.2.2.2.2 gL_consumed_X3_consumed rfl rfl rfl (by decide +kernel) ⟨Nat.le_of_ble_eq_true rfl, Nat.le_of_ble_eq_true rfl⟩) (t_preV (N := 3) (T := TX3) hK hX hZ hP hS (Nat.le_refl _) hA hA2 (by decide) rfl rfl) rfl rfl hl.1 rfl (lv_room (Nat.le_of_ble_eq_true rfl)) dL_consumed_4 ⟨Nat.le_of_ble_eq_true rfl, Nat.le_of_ble_eq_true rfl⟩) hA hA2 hne hO hS (fun E ce q9 H locs hR hP hO hS hce hcv hcl => ?_) (fun v H locs hR hP hO hS => ?_)
  · rcases hw.resolve_left (fun ⟨v, hv, _⟩ => by rw [hR] at hv; cases hv) with ⟨hE, hkk, hz⟩ | ⟨hE, hkk, hz⟩
    · cases hR.symm.trans hE
      subst hkk
      subst hz
      refine vx_catch (own := RL) (E := exS) (name := exS) hown [] _ [_] htab (fun w hw => absurd hw List.not_mem_nil) (by decide) (by decide) (S.2.2.2.2 (.classLink RL 13 exS) (by decide +kernel)) (va_Nw.use rfl hX.2.2.2.2.2.2.2.2.2.2.1) hce hcv hcl ?_
      refine lv_astore_n (lv' := [(3, .ref q9), (0, .ref (κ 0)), (1, .int p1), (2, .ref o)]) hx hb dL_consumed_12 rfl hl (by decide) rfl (fun ls hl => ?_)
      refine lv_iconst (v := 1) hx hb dL_consumed_13 (by decide) ?_
      exact w_iret S hr hlk hP hO hS rfl (Nat.le_of_ble_eq_true rfl) (Nat.le_of_ble_eq_true rfl) dL_consumed_14
    · cases hR.symm.trans hE
      subst hkk
      subst hz
      refine vx_catch (own := RL) (E := exI) (name := exI) hown [_] _ [] htab (fun w hw => by rw [List.mem_singleton.mp hw]; exact Or.inr ⟨by decide, exS, S.2.2.2.2 (.classLink RL 13 exS) (by decide +kernel), hN.2.2⟩) (by decide) (by decide) (S.2.2.2.2 (.classLink RL 19 exI) (by decide +kernel)) (va_Nw.use rfl hX.2.2.2.2.2.2.2.2.2.1) hce hcv hcl ?_
      refine lv_astore_n (lv' := [(3, .ref q9), (0, .ref (κ 0)), (1, .int p1), (2, .ref o)]) hx hb dL_consumed_15 rfl hl (by decide) rfl (fun ls hl => ?_)
      refine lv_iconst (v := 2) hx hb dL_consumed_16 (by decide) ?_
      exact w_iret S hr hlk hP hO hS rfl (Nat.le_of_ble_eq_true rfl) (Nat.le_of_ble_eq_true rfl) dL_consumed_17
  · obtain ⟨w, hv, hkk, hz⟩ := hw.resolve_right (fun hv => hv.elim (fun hv => by rw [hR] at hv; cases hv.1) (fun hv => by rw [hR] at hv; cases hv.1))
    cases hR.symm.trans hv
    subst hkk
    refine lv_i2l (v := v.toInt64) hx hb dL_consumed_7 rfl ?_
    refine w_last S hJ hκ hA hAo hne hP hO hS dL_consumed_8 (fun H locs hP hO hS => ?_)
    refine lv_goto (tgt := 18) hx hb dL_consumed_9 (by decide) ?_
    refine lv_iconst (v := 0) hx hb dL_consumed_18 (by decide) ?_
    subst hz
    exact w_iret S hr hlk hP hO hS rfl (Nat.le_of_ble_eq_true rfl) (Nat.le_of_ble_eq_true rfl) dL_consumed_19

set_option maxRecDepth 100000 in
set_option maxHeartbeats 4000000 in
theorem lw_produced (l : Launch) (hst : l.stackTraces = false) (D : va_G) (cI cII cJ : ClassId) (κ : Nat → Nat) (hκ : Inj 31 κ) (o : Nat) (hne : ∀ k, k < 31 → κ k ≠ o) (σ : SX) (p1 : Int32) (z : Int64) (sz : Nat) (R : Int32 ⊕ String) (σ' : SX) (kk : Int32) (z' : Int64) (hf : fn_X3_produced σ p1 = some (R, σ')) (hw : WO2 exS exI R z kk z') :
    vx_Met l yL_produced wsL_produced ({ frames := 8, cells := 2, slots := 12, locals := 123 } : Room) (va_Pc [.ref (κ 0), .int p1, .ref o] (lP D cI cII cJ κ o σ z sz)) (lQ D cI cII cJ κ o σ' z' kk sz) (lX κ o sz) 2 12 (lA κ o sz) := by
  refine t_enterH (cc := cL_produced) (maxL := 4) (ret := (some .int)) (hh := [(0, 9, 12, 13), (0, 9, 15, 19)]) (by decide) rfl (Nat.le_of_ble_eq_true rfl) ?_
  intro p e s m args below meth c ls S hr hlk htab hB hl
  have S : CallFix p m c cL_produced 4 s args wsL_produced RL := S
  obtain ⟨hsz, hP, hO, hK, hX, hZ, hJ, hN⟩ := hB
  have hl : lv_has ls 4 [(0, .ref (κ 0)), (1, .int p1), (2, .ref o)] := hl
  have hS : va_S (lA κ o sz) s.heap s.heap [] := va_S.rf
  have hA : ∀ k, k < 31 → lA κ o sz (κ k) := fun k hk => Or.inl (tA_in k hk)
  have hA2 : ∀ q, s.heap.size ≤ q → lA κ o sz q := fun q h => Or.inl (Or.inr (hsz ▸ h))
  have hAo : lA κ o sz o := Or.inr rfl
  obtain ⟨hx, hb, hml, hown, hts⟩ := id S
  refine lv_aload_n hx hb dL_produced_0 rfl (lv_at hl 2 rfl) ?_
  refine lv_iconst (v := 0) hx hb dL_produced_1 (by decide) ?_
  refine lv_aload_n hx hb dL_produced_2 rfl (lv_at hl 0 rfl) ?_
  refine lv_iload_n hx hb dL_produced_3 rfl (lv_at hl 1 rfl) ?_
  refine w_calli (vx_runV (As := [.int p1]) (rest := [.int 0, .ref o]) S (met_X3_produced l hst D cI cII κ hκ σ p1 _ R σ' hf) (cwV 1 S.2.2.2.2 gL_produced_X3_produced rfl rfl rfl (by decide +kernel) ⟨Nat.le_of_ble_eq_true rfl, Nat.le_of_ble_eq_true rfl⟩) (t_preV (N := 3) (T := TX3) hK hX hZ hP hS (Nat.le_refl _) hA hA2 (by decide) rfl rfl) rfl rfl hl.1 rfl (lv_room (Nat.le_of_ble_eq_true rfl)) dL_produced_4 ⟨Nat.le_of_ble_eq_true rfl, Nat.le_of_ble_eq_true rfl⟩) hA hA2 hne hO hS (fun E ce q9 H locs hR hP hO hS hce hcv hcl => ?_) (fun v H locs hR hP hO hS => ?_)
  · rcases hw.resolve_left (fun ⟨v, hv, _⟩ => by rw [hR] at hv; cases hv) with ⟨hE, hkk, hz⟩ | ⟨hE, hkk, hz⟩
    · cases hR.symm.trans hE
      subst hkk
      subst hz
      refine vx_catch (own := RL) (E := exS) (name := exS) hown [] _ [_] htab (fun w hw => absurd hw List.not_mem_nil) (by decide) (by decide) (S.2.2.2.2 (.classLink RL 13 exS) (by decide +kernel)) (va_Nw.use rfl hX.2.2.2.2.2.2.2.2.2.2.1) hce hcv hcl ?_
      refine lv_astore_n (lv' := [(3, .ref q9), (0, .ref (κ 0)), (1, .int p1), (2, .ref o)]) hx hb dL_produced_12 rfl hl (by decide) rfl (fun ls hl => ?_)
      refine lv_iconst (v := 1) hx hb dL_produced_13 (by decide) ?_
      exact w_iret S hr hlk hP hO hS rfl (Nat.le_of_ble_eq_true rfl) (Nat.le_of_ble_eq_true rfl) dL_produced_14
    · cases hR.symm.trans hE
      subst hkk
      subst hz
      refine vx_catch (own := RL) (E := exI) (name := exI) hown [_] _ [] htab (fun w hw => by rw [List.mem_singleton.mp hw]; exact Or.inr ⟨by decide, exS, S.2.2.2.2 (.classLink RL 13 exS) (by decide +kernel), hN.2.2⟩) (by decide) (by decide) (S.2.2.2.2 (.classLink RL 19 exI) (by decide +kernel)) (va_Nw.use rfl hX.2.2.2.2.2.2.2.2.2.1) hce hcv hcl ?_
      refine lv_astore_n (lv' := [(3, .ref q9), (0, .ref (κ 0)), (1, .int p1), (2, .ref o)]) hx hb dL_produced_15 rfl hl (by decide) rfl (fun ls hl => ?_)
      refine lv_iconst (v := 2) hx hb dL_produced_16 (by decide) ?_
      exact w_iret S hr hlk hP hO hS rfl (Nat.le_of_ble_eq_true rfl) (Nat.le_of_ble_eq_true rfl) dL_produced_17
  · obtain ⟨w, hv, hkk, hz⟩ := hw.resolve_right (fun hv => hv.elim (fun hv => by rw [hR] at hv; cases hv.1) (fun hv => by rw [hR] at hv; cases hv.1))
    cases hR.symm.trans hv
    subst hkk
    refine lv_i2l (v := v.toInt64) hx hb dL_produced_7 rfl ?_
    refine w_last S hJ hκ hA hAo hne hP hO hS dL_produced_8 (fun H locs hP hO hS => ?_)
    refine lv_goto (tgt := 18) hx hb dL_produced_9 (by decide) ?_
    refine lv_iconst (v := 0) hx hb dL_produced_18 (by decide) ?_
    subst hz
    exact w_iret S hr hlk hP hO hS rfl (Nat.le_of_ble_eq_true rfl) (Nat.le_of_ble_eq_true rfl) dL_produced_19

set_option maxRecDepth 100000 in
set_option maxHeartbeats 4000000 in
theorem lw_marking (l : Launch) (hst : l.stackTraces = false) (D : va_G) (cI cII cJ : ClassId) (κ : Nat → Nat) (hκ : Inj 31 κ) (o : Nat) (hne : ∀ k, k < 31 → κ k ≠ o) (σ : SX) (z : Int64) (sz : Nat) (R : Int32 ⊕ String) (σ' : SX) (kk : Int32) (z' : Int64) (hf : fn_X3_marking σ = some (R, σ')) (hw : WO1 exS R z kk z') :
    vx_Met l yL_marking wsL_marking ({ frames := 8, cells := 1, slots := 6, locals := 122 } : Room) (va_Pc [.ref (κ 0), .ref o] (lP D cI cII cJ κ o σ z sz)) (lQ D cI cII cJ κ o σ' z' kk sz) (lX κ o sz) 1 6 (lA κ o sz) := by
  refine t_enterH (cc := cL_marking) (maxL := 3) (ret := (some .int)) (hh := [(0, 8, 11, 13)]) (by decide) rfl (Nat.le_of_ble_eq_true rfl) ?_
  intro p e s m args below meth c ls S hr hlk htab hB hl
  have S : CallFix p m c cL_marking 3 s args wsL_marking RL := S
  obtain ⟨hsz, hP, hO, hK, hX, hZ, hJ, hN⟩ := hB
  have hl : lv_has ls 3 [(0, .ref (κ 0)), (1, .ref o)] := hl
  have hS : va_S (lA κ o sz) s.heap s.heap [] := va_S.rf
  have hA : ∀ k, k < 31 → lA κ o sz (κ k) := fun k hk => Or.inl (tA_in k hk)
  have hA2 : ∀ q, s.heap.size ≤ q → lA κ o sz q := fun q h => Or.inl (Or.inr (hsz ▸ h))
  have hAo : lA κ o sz o := Or.inr rfl
  obtain ⟨hx, hb, hml, hown, hts⟩ := id S
  refine lv_aload_n hx hb dL_marking_0 rfl (lv_at hl 1 rfl) ?_
  refine lv_iconst (v := 0) hx hb dL_marking_1 (by decide) ?_
  refine lv_aload_n hx hb dL_marking_2 rfl (lv_at hl 0 rfl) ?_
  refine w_calli (vx_runV (As := []) (rest := [.int 0, .ref o]) S (met_X3_marking l hst D cI cII κ hκ σ _ R σ' hf) (cwV 0 S.2.2.2.2 gL_marking_X3_marking rfl rfl rfl (by decide +kernel) ⟨Nat.le_of_ble_eq_true rfl, Nat.le_of_ble_eq_true rfl⟩) (t_preV (N := 3) (T := TX3) hK hX hZ hP hS (Nat.le_refl _) hA hA2 (by decide) rfl rfl) rfl rfl hl.1 rfl (lv_room (Nat.le_of_ble_eq_true rfl)) dL_marking_3 ⟨Nat.le_of_ble_eq_true rfl, Nat.le_of_ble_eq_true rfl⟩) hA hA2 hne hO hS (fun E ce q9 H locs hR hP hO hS hce hcv hcl => ?_) (fun v H locs hR hP hO hS => ?_)
  · obtain ⟨hE, hkk, hz⟩ := hw.resolve_left (fun ⟨v, hv, _⟩ => by rw [hR] at hv; cases hv)
    cases hR.symm.trans hE
    subst hkk
    subst hz
    refine vx_catch (own := RL) (E := exS) (name := exS) hown [] _ [] htab (fun w hw => absurd hw List.not_mem_nil) (by decide) (by decide) (S.2.2.2.2 (.classLink RL 13 exS) (by decide +kernel)) (va_Nw.use rfl hX.2.2.2.2.2.2.2.2.2.2.1) hce hcv hcl ?_
    refine lv_astore_n (lv' := [(2, .ref q9), (0, .ref (κ 0)), (1, .ref o)]) hx hb dL_marking_11 rfl hl (by decide) rfl (fun ls hl => ?_)
    refine lv_iconst (v := 1) hx hb dL_marking_12 (by decide) ?_
    exact w_iret S hr hlk hP hO hS rfl (Nat.le_of_ble_eq_true rfl) (Nat.le_of_ble_eq_true rfl) dL_marking_13
  · obtain ⟨w, hv, hkk, hz⟩ := hw.resolve_right (fun hv => by rw [hR] at hv; cases hv.1)
    cases hR.symm.trans hv
    subst hkk
    refine lv_i2l (v := v.toInt64) hx hb dL_marking_6 rfl ?_
    refine w_last S hJ hκ hA hAo hne hP hO hS dL_marking_7 (fun H locs hP hO hS => ?_)
    refine lv_goto (tgt := 14) hx hb dL_marking_8 (by decide) ?_
    refine lv_iconst (v := 0) hx hb dL_marking_14 (by decide) ?_
    subst hz
    exact w_iret S hr hlk hP hO hS rfl (Nat.le_of_ble_eq_true rfl) (Nat.le_of_ble_eq_true rfl) dL_marking_15

set_option maxRecDepth 100000 in
set_option maxHeartbeats 4000000 in
theorem lw_fire (l : Launch) (hst : l.stackTraces = false) (D : va_G) (cI cII cJ : ClassId) (κ : Nat → Nat) (hκ : Inj 31 κ) (o : Nat) (hne : ∀ k, k < 31 → κ k ≠ o) (σ : SX) (p1 : Int32) (z : Int64) (sz : Nat) (R : Int32 ⊕ String) (σ' : SX) (kk : Int32) (z' : Int64) (hf : fn_X3_fire σ p1 = some (R, σ')) (hw : WO2 exS exI R z kk z') :
    vx_Met l yL_fire wsL_fire ({ frames := 8, cells := 2, slots := 12, locals := 123 } : Room) (va_Pc [.ref (κ 0), .int p1, .ref o] (lP D cI cII cJ κ o σ z sz)) (lQ D cI cII cJ κ o σ' z' kk sz) (lX κ o sz) 2 12 (lA κ o sz) := by
  refine t_enterH (cc := cL_fire) (maxL := 4) (ret := (some .int)) (hh := [(0, 9, 12, 13), (0, 9, 15, 19)]) (by decide) rfl (Nat.le_of_ble_eq_true rfl) ?_
  intro p e s m args below meth c ls S hr hlk htab hB hl
  have S : CallFix p m c cL_fire 4 s args wsL_fire RL := S
  obtain ⟨hsz, hP, hO, hK, hX, hZ, hJ, hN⟩ := hB
  have hl : lv_has ls 4 [(0, .ref (κ 0)), (1, .int p1), (2, .ref o)] := hl
  have hS : va_S (lA κ o sz) s.heap s.heap [] := va_S.rf
  have hA : ∀ k, k < 31 → lA κ o sz (κ k) := fun k hk => Or.inl (tA_in k hk)
  have hA2 : ∀ q, s.heap.size ≤ q → lA κ o sz q := fun q h => Or.inl (Or.inr (hsz ▸ h))
  have hAo : lA κ o sz o := Or.inr rfl
  obtain ⟨hx, hb, hml, hown, hts⟩ := id S
  refine lv_aload_n hx hb dL_fire_0 rfl (lv_at hl 2 rfl) ?_
  refine lv_iconst (v := 0) hx hb dL_fire_1 (by decide) ?_
  refine lv_aload_n hx hb dL_fire_2 rfl (lv_at hl 0 rfl) ?_
  refine lv_iload_n hx hb dL_fire_3 rfl (lv_at hl 1 rfl) ?_
  refine w_calli (vx_runV (As := [.int p1]) (rest := [.int 0, .ref o]) S (met_X3_fire l hst D cI cII κ hκ σ p1 _ R σ' hf) (cwV 1 S.2.2.2.2 gL_fire_X3_fire rfl rfl rfl (by decide +kernel) ⟨Nat.le_of_ble_eq_true rfl, Nat.le_of_ble_eq_true rfl⟩) (t_preV (N := 3) (T := TX3) hK hX hZ hP hS (Nat.le_refl _) hA hA2 (by decide) rfl rfl) rfl rfl hl.1 rfl (lv_room (Nat.le_of_ble_eq_true rfl)) dL_fire_4 ⟨Nat.le_of_ble_eq_true rfl, Nat.le_of_ble_eq_true rfl⟩) hA hA2 hne hO hS (fun E ce q9 H locs hR hP hO hS hce hcv hcl => ?_) (fun v H locs hR hP hO hS => ?_)
  · rcases hw.resolve_left (fun ⟨v, hv, _⟩ => by rw [hR] at hv; cases hv) with ⟨hE, hkk, hz⟩ | ⟨hE, hkk, hz⟩
    · cases hR.symm.trans hE
      subst hkk
      subst hz
      refine vx_catch (own := RL) (E := exS) (name := exS) hown [] _ [_] htab (fun w hw => absurd hw List.not_mem_nil) (by decide) (by decide) (S.2.2.2.2 (.classLink RL 13 exS) (by decide +kernel)) (va_Nw.use rfl hX.2.2.2.2.2.2.2.2.2.2.1) hce hcv hcl ?_
      refine lv_astore_n (lv' := [(3, .ref q9), (0, .ref (κ 0)), (1, .int p1), (2, .ref o)]) hx hb dL_fire_12 rfl hl (by decide) rfl (fun ls hl => ?_)
      refine lv_iconst (v := 1) hx hb dL_fire_13 (by decide) ?_
      exact w_iret S hr hlk hP hO hS rfl (Nat.le_of_ble_eq_true rfl) (Nat.le_of_ble_eq_true rfl) dL_fire_14
    · cases hR.symm.trans hE
      subst hkk
      subst hz
      refine vx_catch (own := RL) (E := exI) (name := exI) hown [_] _ [] htab (fun w hw => by rw [List.mem_singleton.mp hw]; exact Or.inr ⟨by decide, exS, S.2.2.2.2 (.classLink RL 13 exS) (by decide +kernel), hN.2.2⟩) (by decide) (by decide) (S.2.2.2.2 (.classLink RL 19 exI) (by decide +kernel)) (va_Nw.use rfl hX.2.2.2.2.2.2.2.2.2.1) hce hcv hcl ?_
      refine lv_astore_n (lv' := [(3, .ref q9), (0, .ref (κ 0)), (1, .int p1), (2, .ref o)]) hx hb dL_fire_15 rfl hl (by decide) rfl (fun ls hl => ?_)
      refine lv_iconst (v := 2) hx hb dL_fire_16 (by decide) ?_
      exact w_iret S hr hlk hP hO hS rfl (Nat.le_of_ble_eq_true rfl) (Nat.le_of_ble_eq_true rfl) dL_fire_17
  · obtain ⟨w, hv, hkk, hz⟩ := hw.resolve_right (fun hv => hv.elim (fun hv => by rw [hR] at hv; cases hv.1) (fun hv => by rw [hR] at hv; cases hv.1))
    cases hR.symm.trans hv
    subst hkk
    refine lv_i2l (v := v.toInt64) hx hb dL_fire_7 rfl ?_
    refine w_last S hJ hκ hA hAo hne hP hO hS dL_fire_8 (fun H locs hP hO hS => ?_)
    refine lv_goto (tgt := 18) hx hb dL_fire_9 (by decide) ?_
    refine lv_iconst (v := 0) hx hb dL_fire_18 (by decide) ?_
    subst hz
    exact w_iret S hr hlk hP hO hS rfl (Nat.le_of_ble_eq_true rfl) (Nat.le_of_ble_eq_true rfl) dL_fire_19

set_option maxRecDepth 100000 in
set_option maxHeartbeats 4000000 in
theorem lw_markingCount (l : Launch) (hst : l.stackTraces = false) (D : va_G) (cI cII cJ : ClassId) (κ : Nat → Nat) (hκ : Inj 31 κ) (o : Nat) (hne : ∀ k, k < 31 → κ k ≠ o) (σ : SX) (z : Int64) (sz : Nat) (R : Int32 ⊕ String) (σ' : SX) (kk : Int32) (z' : Int64) (hf : fn_X3_markingCount σ = some (R, σ')) (hw : WO1 exS R z kk z') :
    vx_Met l yL_markingCount wsL_markingCount ({ frames := 8, cells := 1, slots := 6, locals := 122 } : Room) (va_Pc [.ref (κ 0), .ref o] (lP D cI cII cJ κ o σ z sz)) (lQ D cI cII cJ κ o σ' z' kk sz) (lX κ o sz) 1 6 (lA κ o sz) := by
  refine t_enterH (cc := cL_markingCount) (maxL := 3) (ret := (some .int)) (hh := [(0, 8, 11, 13)]) (by decide) rfl (Nat.le_of_ble_eq_true rfl) ?_
  intro p e s m args below meth c ls S hr hlk htab hB hl
  have S : CallFix p m c cL_markingCount 3 s args wsL_markingCount RL := S
  obtain ⟨hsz, hP, hO, hK, hX, hZ, hJ, hN⟩ := hB
  have hl : lv_has ls 3 [(0, .ref (κ 0)), (1, .ref o)] := hl
  have hS : va_S (lA κ o sz) s.heap s.heap [] := va_S.rf
  have hA : ∀ k, k < 31 → lA κ o sz (κ k) := fun k hk => Or.inl (tA_in k hk)
  have hA2 : ∀ q, s.heap.size ≤ q → lA κ o sz q := fun q h => Or.inl (Or.inr (hsz ▸ h))
  have hAo : lA κ o sz o := Or.inr rfl
  obtain ⟨hx, hb, hml, hown, hts⟩ := id S
  refine lv_aload_n hx hb dL_markingCount_0 rfl (lv_at hl 1 rfl) ?_
  refine lv_iconst (v := 0) hx hb dL_markingCount_1 (by decide) ?_
  refine lv_aload_n hx hb dL_markingCount_2 rfl (lv_at hl 0 rfl) ?_
  refine w_calli (vx_runV (As := []) (rest := [.int 0, .ref o]) S (met_X3_markingCount l hst D cI cII κ hκ σ _ R σ' hf) (cwV 0 S.2.2.2.2 gL_markingCount_X3_markingCount rfl rfl rfl (by decide +kernel) ⟨Nat.le_of_ble_eq_true rfl, Nat.le_of_ble_eq_true rfl⟩) (t_preV (N := 3) (T := TX3) hK hX hZ hP hS (Nat.le_refl _) hA hA2 (by decide) rfl rfl) rfl rfl hl.1 rfl (lv_room (Nat.le_of_ble_eq_true rfl)) dL_markingCount_3 ⟨Nat.le_of_ble_eq_true rfl, Nat.le_of_ble_eq_true rfl⟩) hA hA2 hne hO hS (fun E ce q9 H locs hR hP hO hS hce hcv hcl => ?_) (fun v H locs hR hP hO hS => ?_)
  · obtain ⟨hE, hkk, hz⟩ := hw.resolve_left (fun ⟨v, hv, _⟩ => by rw [hR] at hv; cases hv)
    cases hR.symm.trans hE
    subst hkk
    subst hz
    refine vx_catch (own := RL) (E := exS) (name := exS) hown [] _ [] htab (fun w hw => absurd hw List.not_mem_nil) (by decide) (by decide) (S.2.2.2.2 (.classLink RL 13 exS) (by decide +kernel)) (va_Nw.use rfl hX.2.2.2.2.2.2.2.2.2.2.1) hce hcv hcl ?_
    refine lv_astore_n (lv' := [(2, .ref q9), (0, .ref (κ 0)), (1, .ref o)]) hx hb dL_markingCount_11 rfl hl (by decide) rfl (fun ls hl => ?_)
    refine lv_iconst (v := 1) hx hb dL_markingCount_12 (by decide) ?_
    exact w_iret S hr hlk hP hO hS rfl (Nat.le_of_ble_eq_true rfl) (Nat.le_of_ble_eq_true rfl) dL_markingCount_13
  · obtain ⟨w, hv, hkk, hz⟩ := hw.resolve_right (fun hv => by rw [hR] at hv; cases hv.1)
    cases hR.symm.trans hv
    subst hkk
    refine lv_i2l (v := v.toInt64) hx hb dL_markingCount_6 rfl ?_
    refine w_last S hJ hκ hA hAo hne hP hO hS dL_markingCount_7 (fun H locs hP hO hS => ?_)
    refine lv_goto (tgt := 14) hx hb dL_markingCount_8 (by decide) ?_
    refine lv_iconst (v := 0) hx hb dL_markingCount_14 (by decide) ?_
    subst hz
    exact w_iret S hr hlk hP hO hS rfl (Nat.le_of_ble_eq_true rfl) (Nat.le_of_ble_eq_true rfl) dL_markingCount_15

set_option maxRecDepth 100000 in
set_option maxHeartbeats 4000000 in
theorem lw_markingAt (l : Launch) (hst : l.stackTraces = false) (D : va_G) (cI cII cJ : ClassId) (κ : Nat → Nat) (hκ : Inj 31 κ) (o : Nat) (hne : ∀ k, k < 31 → κ k ≠ o) (σ : SX) (p1 : Int32) (z : Int64) (sz : Nat) (R : Int32 ⊕ String) (σ' : SX) (kk : Int32) (z' : Int64) (hf : fn_X3_markingAt σ p1 = some (R, σ')) (hw : WO2 exS exI R z kk z') :
    vx_Met l yL_markingAt wsL_markingAt ({ frames := 8, cells := 2, slots := 12, locals := 123 } : Room) (va_Pc [.ref (κ 0), .int p1, .ref o] (lP D cI cII cJ κ o σ z sz)) (lQ D cI cII cJ κ o σ' z' kk sz) (lX κ o sz) 2 12 (lA κ o sz) := by
  refine t_enterH (cc := cL_markingAt) (maxL := 4) (ret := (some .int)) (hh := [(0, 9, 12, 13), (0, 9, 15, 19)]) (by decide) rfl (Nat.le_of_ble_eq_true rfl) ?_
  intro p e s m args below meth c ls S hr hlk htab hB hl
  have S : CallFix p m c cL_markingAt 4 s args wsL_markingAt RL := S
  obtain ⟨hsz, hP, hO, hK, hX, hZ, hJ, hN⟩ := hB
  have hl : lv_has ls 4 [(0, .ref (κ 0)), (1, .int p1), (2, .ref o)] := hl
  have hS : va_S (lA κ o sz) s.heap s.heap [] := va_S.rf
  have hA : ∀ k, k < 31 → lA κ o sz (κ k) := fun k hk => Or.inl (tA_in k hk)
  have hA2 : ∀ q, s.heap.size ≤ q → lA κ o sz q := fun q h => Or.inl (Or.inr (hsz ▸ h))
  have hAo : lA κ o sz o := Or.inr rfl
  obtain ⟨hx, hb, hml, hown, hts⟩ := id S
  refine lv_aload_n hx hb dL_markingAt_0 rfl (lv_at hl 2 rfl) ?_
  refine lv_iconst (v := 0) hx hb dL_markingAt_1 (by decide) ?_
  refine lv_aload_n hx hb dL_markingAt_2 rfl (lv_at hl 0 rfl) ?_
  refine lv_iload_n hx hb dL_markingAt_3 rfl (lv_at hl 1 rfl) ?_
  refine w_calli (vx_runV (As := [.int p1]) (rest := [.int 0, .ref o]) S (met_X3_markingAt l hst D cI cII κ hκ σ p1 _ R σ' hf) (cwV 1 S.2.2.2.2 gL_markingAt_X3_markingAt rfl rfl rfl (by decide +kernel) ⟨Nat.le_of_ble_eq_true rfl, Nat.le_of_ble_eq_true rfl⟩) (t_preV (N := 3) (T := TX3) hK hX hZ hP hS (Nat.le_refl _) hA hA2 (by decide) rfl rfl) rfl rfl hl.1 rfl (lv_room (Nat.le_of_ble_eq_true rfl)) dL_markingAt_4 ⟨Nat.le_of_ble_eq_true rfl, Nat.le_of_ble_eq_true rfl⟩) hA hA2 hne hO hS (fun E ce q9 H locs hR hP hO hS hce hcv hcl => ?_) (fun v H locs hR hP hO hS => ?_)
  · rcases hw.resolve_left (fun ⟨v, hv, _⟩ => by rw [hR] at hv; cases hv) with ⟨hE, hkk, hz⟩ | ⟨hE, hkk, hz⟩
    · cases hR.symm.trans hE
      subst hkk
      subst hz
      refine vx_catch (own := RL) (E := exS) (name := exS) hown [] _ [_] htab (fun w hw => absurd hw List.not_mem_nil) (by decide) (by decide) (S.2.2.2.2 (.classLink RL 13 exS) (by decide +kernel)) (va_Nw.use rfl hX.2.2.2.2.2.2.2.2.2.2.1) hce hcv hcl ?_
      refine lv_astore_n (lv' := [(3, .ref q9), (0, .ref (κ 0)), (1, .int p1), (2, .ref o)]) hx hb dL_markingAt_12 rfl hl (by decide) rfl (fun ls hl => ?_)
      refine lv_iconst (v := 1) hx hb dL_markingAt_13 (by decide) ?_
      exact w_iret S hr hlk hP hO hS rfl (Nat.le_of_ble_eq_true rfl) (Nat.le_of_ble_eq_true rfl) dL_markingAt_14
    · cases hR.symm.trans hE
      subst hkk
      subst hz
      refine vx_catch (own := RL) (E := exI) (name := exI) hown [_] _ [] htab (fun w hw => by rw [List.mem_singleton.mp hw]; exact Or.inr ⟨by decide, exS, S.2.2.2.2 (.classLink RL 13 exS) (by decide +kernel), hN.2.2⟩) (by decide) (by decide) (S.2.2.2.2 (.classLink RL 19 exI) (by decide +kernel)) (va_Nw.use rfl hX.2.2.2.2.2.2.2.2.2.1) hce hcv hcl ?_
      refine lv_astore_n (lv' := [(3, .ref q9), (0, .ref (κ 0)), (1, .int p1), (2, .ref o)]) hx hb dL_markingAt_15 rfl hl (by decide) rfl (fun ls hl => ?_)
      refine lv_iconst (v := 2) hx hb dL_markingAt_16 (by decide) ?_
      exact w_iret S hr hlk hP hO hS rfl (Nat.le_of_ble_eq_true rfl) (Nat.le_of_ble_eq_true rfl) dL_markingAt_17
  · obtain ⟨w, hv, hkk, hz⟩ := hw.resolve_right (fun hv => hv.elim (fun hv => by rw [hR] at hv; cases hv.1) (fun hv => by rw [hR] at hv; cases hv.1))
    cases hR.symm.trans hv
    subst hkk
    refine lv_i2l (v := v.toInt64) hx hb dL_markingAt_7 rfl ?_
    refine w_last S hJ hκ hA hAo hne hP hO hS dL_markingAt_8 (fun H locs hP hO hS => ?_)
    refine lv_goto (tgt := 18) hx hb dL_markingAt_9 (by decide) ?_
    refine lv_iconst (v := 0) hx hb dL_markingAt_18 (by decide) ?_
    subst hz
    exact w_iret S hr hlk hP hO hS rfl (Nat.le_of_ble_eq_true rfl) (Nat.le_of_ble_eq_true rfl) dL_markingAt_19

set_option maxRecDepth 100000 in
set_option maxHeartbeats 4000000 in
theorem lw_isFaithful (l : Launch) (hst : l.stackTraces = false) (D : va_G) (cI cII cJ : ClassId) (κ : Nat → Nat) (hκ : Inj 31 κ) (o : Nat) (hne : ∀ k, k < 31 → κ k ≠ o) (σ : SX) (z : Int64) (sz : Nat) (R : Int32 ⊕ String) (σ' : SX) (kk : Int32) (z' : Int64) (hf : fn_X3_isFaithful σ = some (R, σ')) (hw : WOb exS R z kk z') :
    vx_Met l yL_isFaithful wsL_isFaithful ({ frames := 8, cells := 1, slots := 6, locals := 122 } : Room) (va_Pc [.ref (κ 0), .ref o] (lP D cI cII cJ κ o σ z sz)) (lQ D cI cII cJ κ o σ' z' kk sz) (lX κ o sz) 1 6 (lA κ o sz) := by
  refine t_enterH (cc := cL_isFaithful) (maxL := 3) (ret := (some .int)) (hh := [(0, 15, 18, 13)]) (by decide) rfl (Nat.le_of_ble_eq_true rfl) ?_
  intro p e s m args below meth c ls S hr hlk htab hB hl
  have S : CallFix p m c cL_isFaithful 3 s args wsL_isFaithful RL := S
  obtain ⟨hsz, hP, hO, hK, hX, hZ, hJ, hN⟩ := hB
  have hl : lv_has ls 3 [(0, .ref (κ 0)), (1, .ref o)] := hl
  have hS : va_S (lA κ o sz) s.heap s.heap [] := va_S.rf
  have hA : ∀ k, k < 31 → lA κ o sz (κ k) := fun k hk => Or.inl (tA_in k hk)
  have hA2 : ∀ q, s.heap.size ≤ q → lA κ o sz q := fun q h => Or.inl (Or.inr (hsz ▸ h))
  have hAo : lA κ o sz o := Or.inr rfl
  obtain ⟨hx, hb, hml, hown, hts⟩ := id S
  refine lv_aload_n hx hb dL_isFaithful_0 rfl (lv_at hl 1 rfl) ?_
  refine lv_iconst (v := 0) hx hb dL_isFaithful_1 (by decide) ?_
  refine lv_aload_n hx hb dL_isFaithful_2 rfl (lv_at hl 0 rfl) ?_
  refine w_calli (vx_runV (As := []) (rest := [.int 0, .ref o]) S (met_X3_isFaithful l hst D cI cII κ hκ σ _ R σ' hf) (cwV 0 S.2.2.2.2 gL_isFaithful_X3_isFaithful rfl rfl rfl (by decide +kernel) ⟨Nat.le_of_ble_eq_true rfl, Nat.le_of_ble_eq_true rfl⟩) (t_preV (N := 3) (T := TX3) hK hX hZ hP hS (Nat.le_refl _) hA hA2 (by decide) rfl rfl) rfl rfl hl.1 rfl (lv_room (Nat.le_of_ble_eq_true rfl)) dL_isFaithful_3 ⟨Nat.le_of_ble_eq_true rfl, Nat.le_of_ble_eq_true rfl⟩) hA hA2 hne hO hS (fun E ce q9 H locs hR hP hO hS hce hcv hcl => ?_) (fun v H locs hR hP hO hS => ?_)
  · obtain ⟨hE, hkk, hz⟩ := hw.resolve_left (fun ⟨v, hv, _⟩ => by rw [hR] at hv; cases hv)
    cases hR.symm.trans hE
    subst hkk
    subst hz
    refine vx_catch (own := RL) (E := exS) (name := exS) hown [] _ [] htab (fun w hw => absurd hw List.not_mem_nil) (by decide) (by decide) (S.2.2.2.2 (.classLink RL 13 exS) (by decide +kernel)) (va_Nw.use rfl hX.2.2.2.2.2.2.2.2.2.2.1) hce hcv hcl ?_
    refine lv_astore_n (lv' := [(2, .ref q9), (0, .ref (κ 0)), (1, .ref o)]) hx hb dL_isFaithful_18 rfl hl (by decide) rfl (fun ls hl => ?_)
    refine lv_iconst (v := 1) hx hb dL_isFaithful_19 (by decide) ?_
    exact w_iret S hr hlk hP hO hS rfl (Nat.le_of_ble_eq_true rfl) (Nat.le_of_ble_eq_true rfl) dL_isFaithful_20
  · obtain ⟨w, hv, hkk, hz⟩ := hw.resolve_right (fun hv => by rw [hR] at hv; cases hv.1)
    cases hR.symm.trans hv
    subst hkk
    refine lv_if_eq (tgt := 13) hx hb dL_isFaithful_6 (by decide) (fun cz => ?_) (fun cz => ?_)
    · rw [if_pos cz] at hz
      refine lv_lconst (v := 0) hx hb dL_isFaithful_13 rfl ?_
      refine w_last S hJ hκ hA hAo hne hP hO hS dL_isFaithful_14 (fun H locs hP hO hS => ?_)
      refine lv_goto (tgt := 21) hx hb dL_isFaithful_15 (by decide) ?_
      refine lv_iconst (v := 0) hx hb dL_isFaithful_21 (by decide) ?_
      subst hz
      exact w_iret S hr hlk hP hO hS rfl (Nat.le_of_ble_eq_true rfl) (Nat.le_of_ble_eq_true rfl) dL_isFaithful_22
    · rw [if_neg cz] at hz
      refine lv_lconst (v := 1) hx hb dL_isFaithful_9 rfl ?_
      refine lv_goto (tgt := 14) hx hb dL_isFaithful_10 (by decide) ?_
      refine w_last S hJ hκ hA hAo hne hP hO hS dL_isFaithful_14 (fun H locs hP hO hS => ?_)
      refine lv_goto (tgt := 21) hx hb dL_isFaithful_15 (by decide) ?_
      refine lv_iconst (v := 0) hx hb dL_isFaithful_21 (by decide) ?_
      subst hz
      exact w_iret S hr hlk hP hO hS rfl (Nat.le_of_ble_eq_true rfl) (Nat.le_of_ble_eq_true rfl) dL_isFaithful_22

