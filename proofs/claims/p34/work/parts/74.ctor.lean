/-! 74: constructors -/
def cA (h0 sz : Nat) : Nat → Prop := fun q => q = h0 ∨ sz ≤ q
def cP (D : va_G) (cI cII : ClassId) (sz h0 : Nat) (x0 : va_E) (U : State) : Prop := U.heap.size = sz ∧ gP D cI cII 1 (fun _ => h0) (fun _ => x0) U ∧ va_AOA .int U
theorem cP.blind {av : List Value} {D : va_G} {cI cII : ClassId} {sz h0 : Nat} {x0 : va_E} : FrameBlind (va_Pc av (cP D cI cII sz h0 x0)) := fun a U g mk h =>
  ⟨h.1, h.2.1, ⟨h.2.2.1.1, h.2.2.1.2.calling⟩, va_AOA.warm (s := U) (U := U.calling g mk a) (State.WarmedH.refl U) h.2.2.2⟩
def rC (a1 : Nat) (cI : ClassId) (κ : Nat → Nat) (k : Nat) : va_E := match k with
  | 0 => .inr (1, [.ref a1, .ref (κ 1), .int 0, .int 0])
  | _ => .inl (cI, 4094, .inl fun _ => 0)
theorem lt2 {P : Nat → Prop} (h0 : P 0) (h1 : P 1) : ∀ k, k < 2 → P k := fun k hk => match k, hk with
  | 0, _ => h0
  | 1, _ => h1
theorem lt5 {P : Nat → Prop} (h0 : P 0) (h1 : P 1) (h2 : P 2) (h3 : P 3) (h4 : P 4) : ∀ k, k < 5 → P k := fun k hk => match k, hk with
  | 0, _ => h0
  | 1, _ => h1
  | 2, _ => h2
  | 3, _ => h3
  | 4, _ => h4
set_option maxRecDepth 100000 in
set_option maxHeartbeats 4000000 in
theorem met_X1_init (l : Launch) (D : va_G) (cI cII : ClassId) (h0 a1 sz : Nat) : Met l yX1_init wsX1_init ({ frames := 1, cells := 1, slots := 4094, locals := 14 } : Room) (va_Pc [.ref h0, .ref a1] (cP D cI cII sz h0 (.inr (1, [.null, .null, .int 0, .int 0]))))
    (va_Qv (fun (u : Nat → Nat) => u 0 = h0 ∧ Inj 2 u ∧ ∀ k, k < 2 → cA h0 sz (u k)) (fun u t => gP D cI cII 2 u (rC a1 cI u) t) (cA h0 sz)) 1 4094 (cA h0 sz) := by
  refine g_enter (cc := cX1_init) (maxL := 2) (ret := none) (by decide) rfl (Nat.le_of_ble_eq_true rfl) ?_
  intro p e s m args below meth c ls S hr hlk hnm hB hl
  have S : CallFix p m c cX1_init 2 s args wsX1_init RX1 := S
  obtain ⟨hsz, ⟨hP, hK⟩, hAO⟩ := hB
  have hl : lv_has ls 2 [(0, .ref h0), (1, .ref a1)] := hl
  have hS : va_S (cA h0 sz) s.heap s.heap [] := va_S.rf
  have hA2 : ∀ q, s.heap.size ≤ q → cA h0 sz q := fun q h => Or.inr (hsz ▸ h)
  have hD : va_D (cA h0 sz) (gw 1 (fun _ => h0) fun _ => (.inr (1, [.null, .null, .int 0, .int 0]))) := gw_D (fun i j hi hj _ => by omega) (fun k _ => Or.inl rfl)
  obtain ⟨hx, hb, hml, hown, hts⟩ := id S
  have hiX1 : ∀ w ∈ u_ws RX1 TX1 4, w ∈ wsX1_init := by decide +kernel
  refine lv_aload_n hx hb dX1_init_0 rfl (lv_at hl 0 rfl) ?_
  refine W.objInit hx hb hown (hts (.methodLink RX1 3 objectInit) (by decide +kernel)) (hts (.instanceMethod objectInit) (by decide +kernel)) (hts (.code objectInit ⟨#[0xb1]⟩ 1 none) (by decide +kernel)) rfl (by rw [hml]; exact hl.1) rfl dX1_init_1 (Nat.le_of_ble_eq_true rfl) (Nat.le_of_ble_eq_true rfl) ?_
  refine W.eq (g2 := F0 m 4 ls []) rfl ?_
  refine lv_aload_n hx hb dX1_init_4 rfl (lv_at hl 0 rfl) ?_
  refine lv_aload_n hx hb dX1_init_5 rfl (lv_at hl 1 rfl) ?_
  refine k_putF (κ := fun _ => h0) (q := 0) (ci := 1) (k := 0) (C := RX1) (T := TX1) (N := 4) (index := 9) (ty := .object "RegionNets$Steps") (f' := fun _ => .inr (1, [.ref a1, .null, .int 0, .int 0])) S hK hP hD hS hiX1 tyX1_ok nmX1 (by decide) rfl rfl (by decide) (by decide +kernel) rfl hnm rfl (by decide +kernel) rfl rfl (by decide) (fun j hj => by rw [if_pos (by omega)]; rfl) dX1_init_6 (fun H locs hP hD hS => ?_)
  refine lv_aload_n hx hb dX1_init_9 rfl (lv_at hl 0 rfl) ?_
  refine lv_sipush (v := 4094) hx hb dX1_init_10 (by decide) ?_
  refine k_newa (N := 4094) S hK (by decide +kernel) hP hD hA2 hS (by decide) (by decide) (by decide) (Nat.le_of_ble_eq_true rfl) (Nat.le_of_ble_eq_true rfl) dX1_init_13 (fun q H hP hD hS => ?_)
  refine k_putF (κ := upn (fun _ => h0) 1 q) (q := 0) (ci := 1) (k := 1) (C := RX1) (T := TX1) (N := 4) (index := 15) (ty := .array .int) (f' := rC a1 cI (upn (fun _ => h0) 1 q)) S hK hP hD hS hiX1 tyX1_ok nmX1 (by decide) rfl rfl (by decide) (by decide +kernel) rfl hnm rfl (by decide +kernel) rfl rfl (Nat.le_of_ble_eq_true rfl) (lt2 rfl rfl) dX1_init_15 (fun H locs hP hD hS => ?_)
  exact W.vret S.1 S.2.1 hr (fun t ht hW => ⟨⟨upn (fun _ => h0) 1 q, rfl, ⟨rfl, D_inj hD, D_A hD⟩, by rw [ht]; exact hP, KX.warm hW hK⟩, hS.F ht⟩) hS.2.2 dX1_init_18 hlk
def nC (a1 a2 : Nat) (cI : ClassId) (κ : Nat → Nat) (k : Nat) : va_E := match k with
  | 0 => .inr (0, [.ref a1, .ref a2, .int 0, .int 0, .ref (κ 1), .ref (κ 2), .ref (κ 3), .int 0, .int 0, .ref (κ 4), .int 0])
  | 1 => .inl (cI, 30, .inl fun _ => 0)
  | 4 => .inl (cI, 200, .inl fun _ => 0)
  | _ => .inl (cI, 6, .inl fun _ => 0)
set_option maxRecDepth 100000 in
set_option maxHeartbeats 4000000 in
theorem met_X0_init (l : Launch) (D : va_G) (cI cII : ClassId) (h0 a1 a2 sz : Nat) : Met l yX0_init wsX0_init ({ frames := 1, cells := 4, slots := 242, locals := 14 } : Room) (va_Pc [.ref h0, .ref a1, .ref a2] (cP D cI cII sz h0 (.inr (0, [.null, .null, .int 0, .int 0, .null, .null, .null, .int 0, .int 0, .null, .int 0]))))
    (va_Qv (fun (u : Nat → Nat) => u 0 = h0 ∧ Inj 5 u ∧ ∀ k, k < 5 → cA h0 sz (u k)) (fun u t => gP D cI cII 5 u (nC a1 a2 cI u) t) (cA h0 sz)) 4 242 (cA h0 sz) := by
  refine g_enter (cc := cX0_init) (maxL := 3) (ret := none) (by decide) rfl (Nat.le_of_ble_eq_true rfl) ?_
  intro p e s m args below meth c ls S hr hlk hnm hB hl
  have S : CallFix p m c cX0_init 3 s args wsX0_init RX0 := S
  obtain ⟨hsz, ⟨hP, hK⟩, hAO⟩ := hB
  have hl : lv_has ls 3 [(0, .ref h0), (1, .ref a1), (2, .ref a2)] := hl
  have hS : va_S (cA h0 sz) s.heap s.heap [] := va_S.rf
  have hA2 : ∀ q, s.heap.size ≤ q → cA h0 sz q := fun q h => Or.inr (hsz ▸ h)
  have hD : va_D (cA h0 sz) (gw 1 (fun _ => h0) fun _ => (.inr (0, [.null, .null, .int 0, .int 0, .null, .null, .null, .int 0, .int 0, .null, .int 0]))) := gw_D (fun i j hi hj _ => by omega) (fun k _ => Or.inl rfl)
  obtain ⟨hx, hb, hml, hown, hts⟩ := id S
  have hiX0 : ∀ w ∈ u_ws RX0 TX0 11, w ∈ wsX0_init := by decide +kernel
  refine lv_aload_n hx hb dX0_init_0 rfl (lv_at hl 0 rfl) ?_
  refine W.objInit hx hb hown (hts (.methodLink RX0 3 objectInit) (by decide +kernel)) (hts (.instanceMethod objectInit) (by decide +kernel)) (hts (.code objectInit ⟨#[0xb1]⟩ 1 none) (by decide +kernel)) rfl (by rw [hml]; exact hl.1) rfl dX0_init_1 (Nat.le_of_ble_eq_true rfl) (Nat.le_of_ble_eq_true rfl) ?_
  refine W.eq (g2 := F0 m 4 ls []) rfl ?_
  refine lv_aload_n hx hb dX0_init_4 rfl (lv_at hl 0 rfl) ?_
  refine lv_aload_n hx hb dX0_init_5 rfl (lv_at hl 1 rfl) ?_
  refine k_putF (κ := (fun _ => h0)) (q := 0) (ci := 0) (k := 0) (C := RX0) (T := TX0) (N := 11) (index := 9) (ty := .object "RegionNets$Steps") (f' := fun _ => .inr (0, [.ref a1, .null, .int 0, .int 0, .null, .null, .null, .int 0, .int 0, .null, .int 0])) S hK hP hD hS hiX0 tyX0_ok nmX0 (Nat.le_of_ble_eq_true rfl) rfl rfl (by decide) (by decide +kernel) rfl hnm rfl (by decide +kernel) rfl rfl (Nat.le_of_ble_eq_true rfl) (fun j hj => by rw [if_pos (by omega)]; rfl) dX0_init_6 (fun H locs hP hD hS => ?_)
  refine lv_aload_n hx hb dX0_init_9 rfl (lv_at hl 0 rfl) ?_
  refine lv_aload_n hx hb dX0_init_10 rfl (lv_at hl 2 rfl) ?_
  refine k_putF (κ := (fun _ => h0)) (q := 0) (ci := 0) (k := 1) (C := RX0) (T := TX0) (N := 11) (index := 15) (ty := .object "RegionNets$Regions") (f' := fun _ => .inr (0, [.ref a1, .ref a2, .int 0, .int 0, .null, .null, .null, .int 0, .int 0, .null, .int 0])) S hK hP hD hS hiX0 tyX0_ok nmX0 (Nat.le_of_ble_eq_true rfl) rfl rfl (by decide) (by decide +kernel) rfl hnm rfl (by decide +kernel) rfl rfl (Nat.le_of_ble_eq_true rfl) (fun j hj => by rw [if_pos (by omega)]; rfl) dX0_init_11 (fun H locs hP hD hS => ?_)
  refine lv_aload_n hx hb dX0_init_14 rfl (lv_at hl 0 rfl) ?_
  refine lv_bipush (v := 30) hx hb dX0_init_15 (by decide) ?_
  refine k_newa (N := 30) S hK (by decide +kernel) hP hD hA2 hS (by decide) (by decide) (by decide) (Nat.le_of_ble_eq_true rfl) (Nat.le_of_ble_eq_true rfl) dX0_init_17 (fun q1 H hP hD hS => ?_)
  refine k_putF (κ := (upn (fun _ => h0) 1 q1)) (q := 0) (ci := 0) (k := 4) (C := RX0) (T := TX0) (N := 11) (index := 19) (ty := .array .int) (f' := (upn (upn (fun _ => .inr (0, [.ref a1, .ref a2, .int 0, .int 0, .null, .null, .null, .int 0, .int 0, .null, .int 0])) 1 (.inl (cI, 30, .inl fun _ => 0))) 0 (.inr (0, [.ref a1, .ref a2, .int 0, .int 0, .ref q1, .null, .null, .int 0, .int 0, .null, .int 0])))) S hK hP hD hS hiX0 tyX0_ok nmX0 (Nat.le_of_ble_eq_true rfl) rfl rfl (by decide) (by decide +kernel) rfl hnm rfl (by decide +kernel) rfl rfl (Nat.le_of_ble_eq_true rfl) (fun _ _ => rfl) dX0_init_19 (fun H locs hP hD hS => ?_)
  refine lv_aload_n hx hb dX0_init_22 rfl (lv_at hl 0 rfl) ?_
  refine lv_bipush (v := 6) hx hb dX0_init_23 (by decide) ?_
  refine k_newa (N := 6) S hK (by decide +kernel) hP hD hA2 hS (by decide) (by decide) (by decide) (Nat.le_of_ble_eq_true rfl) (Nat.le_of_ble_eq_true rfl) dX0_init_25 (fun q2 H hP hD hS => ?_)
  refine k_putF (κ := (upn (upn (fun _ => h0) 1 q1) 2 q2)) (q := 0) (ci := 0) (k := 5) (C := RX0) (T := TX0) (N := 11) (index := 23) (ty := .array .int) (f' := (upn (upn (upn (upn (fun _ => .inr (0, [.ref a1, .ref a2, .int 0, .int 0, .null, .null, .null, .int 0, .int 0, .null, .int 0])) 1 (.inl (cI, 30, .inl fun _ => 0))) 0 (.inr (0, [.ref a1, .ref a2, .int 0, .int 0, .ref q1, .null, .null, .int 0, .int 0, .null, .int 0]))) 2 (.inl (cI, 6, .inl fun _ => 0))) 0 (.inr (0, [.ref a1, .ref a2, .int 0, .int 0, .ref q1, .ref q2, .null, .int 0, .int 0, .null, .int 0])))) S hK hP hD hS hiX0 tyX0_ok nmX0 (Nat.le_of_ble_eq_true rfl) rfl rfl (by decide) (by decide +kernel) rfl hnm rfl (by decide +kernel) rfl rfl (Nat.le_of_ble_eq_true rfl) (fun _ _ => rfl) dX0_init_27 (fun H locs hP hD hS => ?_)
  refine lv_aload_n hx hb dX0_init_30 rfl (lv_at hl 0 rfl) ?_
  refine lv_bipush (v := 6) hx hb dX0_init_31 (by decide) ?_
  refine k_newa (N := 6) S hK (by decide +kernel) hP hD hA2 hS (by decide) (by decide) (by decide) (Nat.le_of_ble_eq_true rfl) (Nat.le_of_ble_eq_true rfl) dX0_init_33 (fun q3 H hP hD hS => ?_)
  refine k_putF (κ := (upn (upn (upn (fun _ => h0) 1 q1) 2 q2) 3 q3)) (q := 0) (ci := 0) (k := 6) (C := RX0) (T := TX0) (N := 11) (index := 26) (ty := .array .int) (f' := (upn (upn (upn (upn (upn (upn (fun _ => .inr (0, [.ref a1, .ref a2, .int 0, .int 0, .null, .null, .null, .int 0, .int 0, .null, .int 0])) 1 (.inl (cI, 30, .inl fun _ => 0))) 0 (.inr (0, [.ref a1, .ref a2, .int 0, .int 0, .ref q1, .null, .null, .int 0, .int 0, .null, .int 0]))) 2 (.inl (cI, 6, .inl fun _ => 0))) 0 (.inr (0, [.ref a1, .ref a2, .int 0, .int 0, .ref q1, .ref q2, .null, .int 0, .int 0, .null, .int 0]))) 3 (.inl (cI, 6, .inl fun _ => 0))) 0 (.inr (0, [.ref a1, .ref a2, .int 0, .int 0, .ref q1, .ref q2, .ref q3, .int 0, .int 0, .null, .int 0])))) S hK hP hD hS hiX0 tyX0_ok nmX0 (Nat.le_of_ble_eq_true rfl) rfl rfl (by decide) (by decide +kernel) rfl hnm rfl (by decide +kernel) rfl rfl (Nat.le_of_ble_eq_true rfl) (fun _ _ => rfl) dX0_init_35 (fun H locs hP hD hS => ?_)
  refine lv_aload_n hx hb dX0_init_38 rfl (lv_at hl 0 rfl) ?_
  refine lv_sipush (v := 200) hx hb dX0_init_39 (by decide) ?_
  refine k_newa (N := 200) S hK (by decide +kernel) hP hD hA2 hS (by decide) (by decide) (by decide) (Nat.le_of_ble_eq_true rfl) (Nat.le_of_ble_eq_true rfl) dX0_init_42 (fun q4 H hP hD hS => ?_)
  refine k_putF (κ := (upn (upn (upn (upn (fun _ => h0) 1 q1) 2 q2) 3 q3) 4 q4)) (q := 0) (ci := 0) (k := 9) (C := RX0) (T := TX0) (N := 11) (index := 29) (ty := .array .int) (f' := (upn (upn (upn (upn (upn (upn (upn (upn (fun _ => .inr (0, [.ref a1, .ref a2, .int 0, .int 0, .null, .null, .null, .int 0, .int 0, .null, .int 0])) 1 (.inl (cI, 30, .inl fun _ => 0))) 0 (.inr (0, [.ref a1, .ref a2, .int 0, .int 0, .ref q1, .null, .null, .int 0, .int 0, .null, .int 0]))) 2 (.inl (cI, 6, .inl fun _ => 0))) 0 (.inr (0, [.ref a1, .ref a2, .int 0, .int 0, .ref q1, .ref q2, .null, .int 0, .int 0, .null, .int 0]))) 3 (.inl (cI, 6, .inl fun _ => 0))) 0 (.inr (0, [.ref a1, .ref a2, .int 0, .int 0, .ref q1, .ref q2, .ref q3, .int 0, .int 0, .null, .int 0]))) 4 (.inl (cI, 200, .inl fun _ => 0))) 0 (.inr (0, [.ref a1, .ref a2, .int 0, .int 0, .ref q1, .ref q2, .ref q3, .int 0, .int 0, .ref q4, .int 0])))) S hK hP hD hS hiX0 tyX0_ok nmX0 (Nat.le_of_ble_eq_true rfl) rfl rfl (by decide) (by decide +kernel) rfl hnm rfl (by decide +kernel) rfl rfl (Nat.le_of_ble_eq_true rfl) (fun _ _ => rfl) dX0_init_44 (fun H locs hP hD hS => ?_)
  have eF : gw 5 (upn (upn (upn (upn (fun _ => h0) 1 q1) 2 q2) 3 q3) 4 q4) (upn (upn (upn (upn (upn (upn (upn (upn (fun _ => .inr (0, [.ref a1, .ref a2, .int 0, .int 0, .null, .null, .null, .int 0, .int 0, .null, .int 0])) 1 (.inl (cI, 30, .inl fun _ => 0))) 0 (.inr (0, [.ref a1, .ref a2, .int 0, .int 0, .ref q1, .null, .null, .int 0, .int 0, .null, .int 0]))) 2 (.inl (cI, 6, .inl fun _ => 0))) 0 (.inr (0, [.ref a1, .ref a2, .int 0, .int 0, .ref q1, .ref q2, .null, .int 0, .int 0, .null, .int 0]))) 3 (.inl (cI, 6, .inl fun _ => 0))) 0 (.inr (0, [.ref a1, .ref a2, .int 0, .int 0, .ref q1, .ref q2, .ref q3, .int 0, .int 0, .null, .int 0]))) 4 (.inl (cI, 200, .inl fun _ => 0))) 0 (.inr (0, [.ref a1, .ref a2, .int 0, .int 0, .ref q1, .ref q2, .ref q3, .int 0, .int 0, .ref q4, .int 0]))) = gw 5 (upn (upn (upn (upn (fun _ => h0) 1 q1) 2 q2) 3 q3) 4 q4) (nC a1 a2 cI (upn (upn (upn (upn (fun _ => h0) 1 q1) 2 q2) 3 q3) 4 q4)) := gw_congr (fun _ _ => rfl) (lt5 rfl rfl rfl rfl rfl)
  rw [eF] at hP hD
  exact W.vret S.1 S.2.1 hr (fun t ht hW => ⟨⟨(upn (upn (upn (upn (fun _ => h0) 1 q1) 2 q2) 3 q3) 4 q4), rfl, ⟨rfl, D_inj hD, D_A hD⟩, by rw [ht]; exact hP, KX.warm hW hK⟩, hS.F ht⟩) hS.2.2 dX0_init_47 hlk
