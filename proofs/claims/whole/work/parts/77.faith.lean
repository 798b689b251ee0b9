/-! 77: the reference's isFaithful -/
def s5 (σ : SX) : SX := (σ.1, fun a => if a = 5 then fun _ => 0 else σ.2 a)
theorem lt6 {P : Nat → Prop} (h0 : P 0) (h1 : P 1) (h2 : P 2) (h3 : P 3) (h4 : P 4) (h5 : P 5) : ∀ k, k < 6 → P k := fun k hk => match k, hk with
  | 0, _ => h0
  | 1, _ => h1
  | 2, _ => h2
  | 3, _ => h3
  | 4, _ => h4
  | 5, _ => h5
def fP (D : va_G) (cI cII : ClassId) (κ : Nat → Nat) (σ : SX) (sz : Nat) (U : State) : Prop := U.heap.size = sz ∧ mP D cI cII κ σ U
theorem fP.blind {av : List Value} {D : va_G} {cI cII : ClassId} {κ : Nat → Nat} {σ : SX} {sz : Nat} : FrameBlind (va_Pc av (fP D cI cII κ σ sz)) := fun _ _ _ _ h => ⟨h.1, h.2.1, h.2.2.1, h.2.2.2.calling⟩
set_option maxRecDepth 100000 in
set_option maxHeartbeats 4000000 in
theorem met_X4_isFaithful (l : Launch) (D : va_G) (cI cII : ClassId) (κ : Nat → Nat) (hκ : Inj 5 κ) (σ : SX) (sz : Nat) (r : Int32) (σ1 σ' : SX) (v : Int32) (ha : fn_X4_asks σ 0 1 = some (v, σ1)) (hf : (v = 0 ∧ r = 0 ∧ σ' = σ1) ∨ (¬ v = 0 ∧ fw_X4_isFaithful (s5 σ1) = some (r, σ'))) :
    Met l yX4_isFaithful wsX4_isFaithful ({ frames := 4, cells := 1, slots := 12, locals := 97 } : Room) (va_Pc [.ref (κ 0)] (fP D cI cII κ σ sz)) (va_Qi (fun (r' : Int32) (_ : Unit) => r' = r) (fun _ => gP D cI cII 5 κ (mC cI cII κ σ')) (tA 5 κ sz)) 1 12 (tA 5 κ sz) := by
  refine g_enter (cc := cX4_isFaithful) (maxL := 10) (ret := (some .boolean)) (by decide) rfl (Nat.le_of_ble_eq_true rfl) ?_
  intro p e s m args below meth c ls S hr hlk _ hB hl
  have S : CallFix p m c cX4_isFaithful 10 s args wsX4_isFaithful RX4 := S
  obtain ⟨hsz, hP, hK⟩ := hB
  have hl : lv_has ls 10 [(0, .ref (κ 0))] := hl
  have hS : va_S (tA 5 κ sz) s.heap s.heap [] := va_S.rf
  have hA : ∀ k, k < 5 → tA 5 κ sz (κ k) := tA_in
  have hA2 : ∀ q, s.heap.size ≤ q → tA 5 κ sz q := fun q h => Or.inr (hsz ▸ h)
  obtain ⟨hx, hb, hml, hown, hts⟩ := id S
  refine lv_aload_n hx hb dX4_isFaithful_0 rfl (lv_at hl 0 rfl) ?_
  refine lv_iconst (v := 0) hx hb dX4_isFaithful_1 (by decide) ?_
  refine lv_iconst (v := 1) hx hb dX4_isFaithful_2 (by decide) ?_
  refine g_calli (va_runV (As := [.int 0, .int 1]) (rest := []) S (met_X4_asks l D cI cII κ hκ σ 0 1 v σ1 ha) (cwV 2 S.2.2.2.2 gX4_isFaithful_X4_asks rfl rfl rfl (by decide +kernel) ⟨Nat.le_of_ble_eq_true rfl, Nat.le_of_ble_eq_true rfl⟩) (g_preV (N := 12) (T := TX4) hK hP (Nat.le_refl _) (by decide) rfl rfl) rfl rfl hl.1 rfl (lv_room (Nat.le_of_ble_eq_true rfl)) dX4_isFaithful_3 ⟨Nat.le_of_ble_eq_true rfl, Nat.le_of_ble_eq_true rfl⟩) (Nat.le_refl _) hκ hA hP hS (fun j h1 h2 => absurd h2 (Nat.not_lt.mpr h1)) (fun H locs hP hS => ?_)
  refine lv_if_ne (tgt := 11) hx hb dX4_isFaithful_6 (by decide) (fun c6 => ?_) (fun c6 => ?_)
  · obtain ⟨-, hf⟩ := hf.resolve_left (fun z => c6 z.1)
    refine lv_bipush (v := 12) hx hb dX4_isFaithful_11 (by decide) ?_
    refine k_newa (N := 12) S hK (by decide +kernel) hP (gw_D hκ hA) hA2 hS (by decide) (by decide) (by decide) (Nat.le_of_ble_eq_true rfl) (Nat.le_of_ble_eq_true rfl) dX4_isFaithful_13 (fun q H hP hD hS => ?_)
    have eF : gw 6 (upn κ 5 q) (upn (mC cI cII κ σ1) 5 (.inl (cI, 12, .inl fun _ => 0))) = gw 6 (upn κ 5 q) (mC cI cII (upn κ 5 q) (s5 σ1)) := gw_congr (fun _ _ => rfl) (lt6 rfl rfl rfl rfl rfl rfl)
    rw [eF] at hP hD
    refine lv_astore_n (lv' := [(1, .ref q), (0, .ref (κ 0))]) hx hb dX4_isFaithful_15 rfl hl (by decide) rfl (fun ls hl => ?_)
    refine wk_X4_isFaithful (D_inj hD) S hK hP (D_A hD) hS hl hf (fun H locs ls w hw hP hS => ?_)
    have hP5 : va_P D vwCl (gw 5 κ (mC cI cII κ σ')) H := pw_to (lt5 (pw_of hP (k := 0) (by decide)) (pw_of hP (k := 1) (by decide)) (pw_of hP (k := 2) (by decide)) (pw_of hP (k := 3) (by decide)) (pw_of hP (k := 4) (by decide)))
    exact W.zret (v := w) (ty := .boolean) S.1 S.2.1 hr (zr_w hw).2 (fun t ht hW => ⟨⟨w, (), rfl, (zr_w hw).1, by rw [ht]; exact hP5, KX.warm hW hK⟩, hS.F ht⟩) hS.2.2 dX4_isFaithful_345 hlk
  · obtain ⟨-, hr0, hσ⟩ := hf.resolve_right (fun z => z.1 c6)
    subst hσ
    subst hr0
    refine lv_iconst (v := 0) hx hb dX4_isFaithful_9 (by decide) ?_
    exact W.widen (Nat.le_of_ble_eq_true rfl) (Nat.le_of_ble_eq_true rfl) (W.zret (v := 0) (ty := .boolean) S.1 S.2.1 hr (zr_w zr0).2 (fun t ht hW => ⟨⟨0, (), rfl, rfl, by rw [ht]; exact hP, KX.warm hW hK⟩, hS.F ht⟩) hS.2.2 dX4_isFaithful_10 hlk)
