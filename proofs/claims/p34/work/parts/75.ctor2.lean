/-! 75: constructors of the reference and of Steps -/
theorem P_X2_init (σ : SX) : ∃ σ', fw_X2_init σ = some σ' ∧ σ'.1 = σ.1 ∧ (∀ l s, l < 6 → s < 12 → σ'.2 (2 + l) s = -1) ∧ ∀ a, ¬ (2 ≤ a ∧ a < 8) → σ'.2 a = σ.2 a := by
  unfold fw_X2_init
  simp only [letb]
  refine loop_rel (body := bd_X2_init_55) (bot := fun _ _ => none) (fun i (τ : SX) g => g (nI i) τ) 6 (fun i τ => τ.1 = σ.1 ∧ (∀ l s, l < i → s < 12 → τ.2 (2 + l) s = -1) ∧ ∀ a, ¬ (2 ≤ a ∧ a < 8) → τ.2 a = σ.2 a) (fun o => ∃ σ', o = some σ' ∧ σ'.1 = σ.1 ∧ (∀ l s, l < 6 → s < 12 → σ'.2 (2 + l) s = -1) ∧ ∀ a, ¬ (2 ≤ a ∧ a < 8) → σ'.2 a = σ.2 a) ?_ ?_ FU 0 σ (Nat.zero_le _) (by decide) ⟨rfl, fun l s hl => by omega, fun _ _ => rfl⟩
  · intro rec i τ hi hI hk
    obtain ⟨h1, h2, h3⟩ := hI
    rw [bd_X2_init_55, if_neg (show ¬ (6 : Int32) ≤ nI i from nI_ge hi (by decide))]
    simp only [letb]
    refine loop_rel (body := bd_X2_init_63 rec (nI i)) (bot := fun _ _ => none) (fun j (τ : SX) g => g (nI j) τ) 12 (fun j τ => τ.1 = σ.1 ∧ (∀ l s, l < i → s < 12 → τ.2 (2 + l) s = -1) ∧ (∀ s, s < j → τ.2 (2 + i) s = -1) ∧ ∀ a, ¬ (2 ≤ a ∧ a < 8) → τ.2 a = σ.2 a) (fun o => ∃ σ', o = some σ' ∧ σ'.1 = σ.1 ∧ (∀ l s, l < 6 → s < 12 → σ'.2 (2 + l) s = -1) ∧ ∀ a, ¬ (2 ≤ a ∧ a < 8) → σ'.2 a = σ.2 a) ?_ ?_ FU 0 τ (Nat.zero_le _) (by decide) ⟨h1, h2, fun s hs => by omega, h3⟩
    · intro rec2 j τ hj hI hk2
      obtain ⟨h1, h2, h4, h3⟩ := hI
      rw [bd_X2_init_63, if_neg (show ¬ (12 : Int32) ≤ nI j from nI_ge hj (by decide)), arow_nI hi, Option.bind_some, as_nI hj (by decide), Option.bind_some]
      simp only [letb]
      rw [nI_1]
      refine hk2 _ ⟨h1, fun l s hl hs => ?_, fun s hs => ?_, fun a ha => (sa2 (by omega)).trans (h3 a ha)⟩
      · rw [sa_ne (by omega)]; exact h2 l s hl hs
      · rw [sa_self]
        by_cases c : s = j
        · rw [if_pos c]
        · rw [if_neg c]; exact h4 s (by omega)
    · intro rec2 τ hI
      obtain ⟨h1, h2, h4, h3⟩ := hI
      rw [bd_X2_init_63, if_pos (show (12 : Int32) ≤ nI 12 from nI_le (Nat.le_refl 12) (by decide))]
      simp only [letb]
      rw [nI_1]
      refine hk τ ⟨h1, fun l s hl hs => ?_, h3⟩
      by_cases c : l = i
      · subst c; exact h4 s hs
      · exact h2 l s (by omega) hs
  · intro rec τ hI
    rw [bd_X2_init_55, if_pos (show (6 : Int32) ≤ nI 6 from nI_le (Nat.le_refl 6) (by decide))]
    exact ⟨τ, rfl, hI.1, hI.2.1, hI.2.2⟩
/-- what Steps holds when it is made -/
def NewS (σ : SX) : Prop := σ.1 0 = 1 ∧ (∀ l s, l < 6 → s < 12 → σ.2 (2 + l) s = -1) ∧ ∀ a, ¬ (2 ≤ a ∧ a < 8) → σ.2 a = fun _ => 0
theorem vp_rows {c : ClassId} {r r' : Nat → Nat} (h : ∀ i, i < 6 → r i = r' i) : vp_cell c (6, .inr (.inr (.inr (.inr (fun i => some (r i)))))) = vp_cell c (6, .inr (.inr (.inr (.inr (fun i => some (r' i)))))) := by
  rw [vp_cell_q, vp_cell_q]
  unfold arrV
  refine congrArg (fun z => ({ cls := c, slots := z, vm := .none } : Cell)) (congrArg Array.ofFn (funext fun j => ?_))
  show va_rf (some (r j.val)) = va_rf (some (r' j.val))
  rw [h j.val j.isLt]
theorem up7_lt {α : Type} {f : Nat → α} {n k : Nat} {x : α} {r : Nat → α} (h : k < n) : up7 f n x r k = f k := if_pos h
theorem up7_gt {α : Type} {f : Nat → α} {n k : Nat} {x : α} {r : Nat → α} (h : n < k) : up7 f n x r k = r (k - (n + 1)) := by
  unfold up7
  rw [if_neg (by omega), if_neg (by omega)]
theorem upn_ne {α : Type} {f : Nat → α} {n k : Nat} {x : α} (h : k ≠ n) : upn f n x k = f k := if_neg h
theorem lt23 {P : Nat → Prop} (h0 : P 0) (h1 : P 1) (h8 : P 8) (h9 : P 9) (h16 : P 16) (ha : ∀ i, i < 6 → P (2 + i)) (hb : ∀ i, i < 6 → P (10 + i)) (hc : ∀ i, i < 6 → P (17 + i)) : ∀ k, k < 23 → P k := by
  intro k hk
  by_cases c0 : k = 0
  · subst c0; exact h0
  by_cases c1 : k = 1
  · subst c1; exact h1
  by_cases c8 : k = 8
  · subst c8; exact h8
  by_cases c9 : k = 9
  · subst c9; exact h9
  by_cases c16 : k = 16
  · subst c16; exact h16
  by_cases a1 : k < 8
  · have := ha (k - 2) (by omega); rwa [show 2 + (k - 2) = k by omega] at this
  by_cases a2 : k < 16
  · have := hb (k - 10) (by omega); rwa [show 10 + (k - 10) = k by omega] at this
  have := hc (k - 17) (by omega); rwa [show 17 + (k - 17) = k by omega] at this
theorem pw_of {D : va_G} {n : Nat} {κ : Nat → Nat} {f : Nat → va_E} {H : Heap} (h : va_P D vwCl (gw n κ f) H) {k : Nat} (hk : k < n) : va_at D vwCl (κ k, f k) H := h k _ (gw_at hk)
theorem pw_to {D : va_G} {n : Nat} {κ : Nat → Nat} {f : Nat → va_E} {H : Heap} (h : ∀ k, k < n → va_at D vwCl (κ k, f k) H) : va_P D vwCl (gw n κ f) H := fun k z hk => by
  obtain ⟨h1, rfl⟩ := gw_of hk
  exact h k h1
set_option maxRecDepth 100000 in
set_option maxHeartbeats 4000000 in
theorem met_X2_init (l : Launch) (D : va_G) (cI cII : ClassId) (h0 sz : Nat) : Met l yX2_init wsX2_init ({ frames := 1, cells := 22, slots := 864, locals := 14 } : Room) (va_Pc [.ref h0] (cP D cI cII sz h0 (.inr (2, [.int 0, .null, .null, .null, .null]))))
    (va_Qv (fun (u : (Nat → Nat) × SX) => u.1 0 = h0 ∧ Inj 23 u.1 ∧ (∀ k, k < 23 → cA h0 sz (u.1 k)) ∧ NewS u.2) (fun u t => gP D cI cII 23 u.1 (sC cI cII u.1 u.2) t) (cA h0 sz)) 22 864 (cA h0 sz) := by
  refine g_enter (cc := cX2_init) (maxL := 3) (ret := none) (by decide) rfl (Nat.le_of_ble_eq_true rfl) ?_
  intro p e s m args below meth c ls S hr hlk hnm hB hl
  have S : CallFix p m c cX2_init 3 s args wsX2_init RX2 := S
  obtain ⟨hsz, ⟨hP, hK⟩, hAO⟩ := hB
  have hl : lv_has ls 3 [(0, .ref h0)] := hl
  have hS : va_S (cA h0 sz) s.heap s.heap [] := va_S.rf
  have hA2 : ∀ q, s.heap.size ≤ q → cA h0 sz q := fun q h => Or.inr (hsz ▸ h)
  have hD : va_D (cA h0 sz) (gw 1 (fun _ => h0) fun _ => (.inr (2, [.int 0, .null, .null, .null, .null]))) := gw_D (fun i j hi hj _ => by omega) (fun k _ => Or.inl rfl)
  obtain ⟨hx, hb, hml, hown, hts⟩ := id S
  have hiX2 : ∀ w ∈ u_ws RX2 TX2 5, w ∈ wsX2_init := by decide +kernel
  refine lv_aload_n hx hb dX2_init_0 rfl (lv_at hl 0 rfl) ?_
  refine W.objInit hx hb hown (hts (.methodLink RX2 3 objectInit) (by decide +kernel)) (hts (.instanceMethod objectInit) (by decide +kernel)) (hts (.code objectInit ⟨#[0xb1]⟩ 1 none) (by decide +kernel)) rfl (by rw [hml]; exact hl.1) rfl dX2_init_1 (Nat.le_of_ble_eq_true rfl) (Nat.le_of_ble_eq_true rfl) ?_
  refine W.eq (g2 := F0 m 4 ls []) rfl ?_
  refine lv_aload_n hx hb dX2_init_4 rfl (lv_at hl 0 rfl) ?_
  refine lv_iconst (v := 1) hx hb dX2_init_5 (by decide) ?_
  refine g_put (κ := (fun _ => h0)) (q := 0) (ci := 2) (k := 0) (ref := RX2) (C := RX2) (T := TX2) (N := 5) (index := 9) (ty := .int) (f' := fun _ => .inr (2, [.int 1, .null, .null, .null, .null])) S hK hP (D_inj hD) (D_A hD) hS hiX2 tyX2_ok nmX2 (Nat.le_of_ble_eq_true rfl) rfl rfl (by decide) rfl (by decide +kernel) rfl (by decide +kernel) rfl rfl (Nat.le_of_ble_eq_true rfl) (fun j hj => by rw [if_pos (by omega)]; rfl) dX2_init_6 (fun H locs hP hS => ?_)
  have hD := gw_D (f := fun _ => .inr (2, [.int 1, .null, .null, .null, .null])) (D_inj hD) (D_A hD)
  refine lv_aload_n hx hb dX2_init_9 rfl (lv_at hl 0 rfl) ?_
  refine lv_bipush (v := 6) hx hb dX2_init_10 (by decide) ?_
  refine lv_bipush (v := 12) hx hb dX2_init_12 (by decide) ?_
  refine k_mna (K' := 12) S hK hAO (by decide +kernel) (by decide +kernel) hP hD hA2 hS (by decide) (by decide) (by decide) (by decide) (by decide) (Nat.le_of_ble_eq_true rfl) (Nat.le_of_ble_eq_true rfl) (fun c => rfl) dX2_init_14 (fun q1 r1 H hP hD hS => ?_)
  refine k_putF (κ := (up7 (fun _ => h0) 1 q1 r1)) (q := 0) (ci := 2) (k := 1) (C := RX2) (T := TX2) (N := 5) (index := 17) (ty := .array (.array .int)) (f' := (upn (up7 (fun _ => .inr (2, [.int 1, .null, .null, .null, .null])) 1 (.inl (cII, 6, .inr (.inr (.inr (.inr (fun i => some (r1 i))))))) fun _ => .inl (cI, 12, .inl fun _ => 0)) 0 (.inr (2, [.int 1, .ref q1, .null, .null, .null])))) S hK hP hD hS hiX2 tyX2_ok nmX2 (Nat.le_of_ble_eq_true rfl) rfl rfl (by decide) (by decide +kernel) rfl hnm rfl (by decide +kernel) rfl rfl (Nat.le_of_ble_eq_true rfl) (fun _ _ => rfl) dX2_init_18 (fun H locs hP hD hS => ?_)
  refine lv_aload_n hx hb dX2_init_21 rfl (lv_at hl 0 rfl) ?_
  refine lv_bipush (v := 6) hx hb dX2_init_22 (by decide) ?_
  refine k_newa (N := 6) S hK (by decide +kernel) hP hD hA2 hS (by decide) (by decide) (by decide) (Nat.le_of_ble_eq_true rfl) (Nat.le_of_ble_eq_true rfl) dX2_init_24 (fun q2 H hP hD hS => ?_)
  refine k_putF (κ := (upn (up7 (fun _ => h0) 1 q1 r1) 8 q2)) (q := 0) (ci := 2) (k := 2) (C := RX2) (T := TX2) (N := 5) (index := 20) (ty := .array .int) (f' := (upn (upn (upn (up7 (fun _ => .inr (2, [.int 1, .null, .null, .null, .null])) 1 (.inl (cII, 6, .inr (.inr (.inr (.inr (fun i => some (r1 i))))))) fun _ => .inl (cI, 12, .inl fun _ => 0)) 0 (.inr (2, [.int 1, .ref q1, .null, .null, .null]))) 8 (.inl (cI, 6, .inl fun _ => 0))) 0 (.inr (2, [.int 1, .ref q1, .ref q2, .null, .null])))) S hK hP hD hS hiX2 tyX2_ok nmX2 (Nat.le_of_ble_eq_true rfl) rfl rfl (by decide) (by decide +kernel) rfl hnm rfl (by decide +kernel) rfl rfl (Nat.le_of_ble_eq_true rfl) (fun _ _ => rfl) dX2_init_26 (fun H locs hP hD hS => ?_)
  refine lv_aload_n hx hb dX2_init_29 rfl (lv_at hl 0 rfl) ?_
  refine lv_bipush (v := 6) hx hb dX2_init_30 (by decide) ?_
  refine lv_bipush (v := 64) hx hb dX2_init_32 (by decide) ?_
  refine k_mna (K' := 64) S hK hAO (by decide +kernel) (by decide +kernel) hP hD hA2 hS (by decide) (by decide) (by decide) (by decide) (by decide) (Nat.le_of_ble_eq_true rfl) (Nat.le_of_ble_eq_true rfl) (fun c => rfl) dX2_init_34 (fun q3 r3 H hP hD hS => ?_)
  refine k_putF (κ := (up7 (upn (up7 (fun _ => h0) 1 q1 r1) 8 q2) 9 q3 r3)) (q := 0) (ci := 2) (k := 3) (C := RX2) (T := TX2) (N := 5) (index := 24) (ty := .array (.array .int)) (f' := (upn (up7 (upn (upn (upn (up7 (fun _ => .inr (2, [.int 1, .null, .null, .null, .null])) 1 (.inl (cII, 6, .inr (.inr (.inr (.inr (fun i => some (r1 i))))))) fun _ => .inl (cI, 12, .inl fun _ => 0)) 0 (.inr (2, [.int 1, .ref q1, .null, .null, .null]))) 8 (.inl (cI, 6, .inl fun _ => 0))) 0 (.inr (2, [.int 1, .ref q1, .ref q2, .null, .null]))) 9 (.inl (cII, 6, .inr (.inr (.inr (.inr (fun i => some (r3 i))))))) fun _ => .inl (cI, 64, .inl fun _ => 0)) 0 (.inr (2, [.int 1, .ref q1, .ref q2, .ref q3, .null])))) S hK hP hD hS hiX2 tyX2_ok nmX2 (Nat.le_of_ble_eq_true rfl) rfl rfl (by decide) (by decide +kernel) rfl hnm rfl (by decide +kernel) rfl rfl (Nat.le_of_ble_eq_true rfl) (fun _ _ => rfl) dX2_init_38 (fun H locs hP hD hS => ?_)
  refine lv_aload_n hx hb dX2_init_41 rfl (lv_at hl 0 rfl) ?_
  refine lv_bipush (v := 6) hx hb dX2_init_42 (by decide) ?_
  refine lv_bipush (v := 64) hx hb dX2_init_44 (by decide) ?_
  refine k_mna (K' := 64) S hK hAO (by decide +kernel) (by decide +kernel) hP hD hA2 hS (by decide) (by decide) (by decide) (by decide) (by decide) (Nat.le_of_ble_eq_true rfl) (Nat.le_of_ble_eq_true rfl) (fun c => rfl) dX2_init_46 (fun q4 r4 H hP hD hS => ?_)
  refine k_putF (κ := (up7 (up7 (upn (up7 (fun _ => h0) 1 q1 r1) 8 q2) 9 q3 r3) 16 q4 r4)) (q := 0) (ci := 2) (k := 4) (C := RX2) (T := TX2) (N := 5) (index := 27) (ty := .array (.array .int)) (f' := (upn (up7 (upn (up7 (upn (upn (upn (up7 (fun _ => .inr (2, [.int 1, .null, .null, .null, .null])) 1 (.inl (cII, 6, .inr (.inr (.inr (.inr (fun i => some (r1 i))))))) fun _ => .inl (cI, 12, .inl fun _ => 0)) 0 (.inr (2, [.int 1, .ref q1, .null, .null, .null]))) 8 (.inl (cI, 6, .inl fun _ => 0))) 0 (.inr (2, [.int 1, .ref q1, .ref q2, .null, .null]))) 9 (.inl (cII, 6, .inr (.inr (.inr (.inr (fun i => some (r3 i))))))) fun _ => .inl (cI, 64, .inl fun _ => 0)) 0 (.inr (2, [.int 1, .ref q1, .ref q2, .ref q3, .null]))) 16 (.inl (cII, 6, .inr (.inr (.inr (.inr (fun i => some (r4 i))))))) fun _ => .inl (cI, 64, .inl fun _ => 0)) 0 (.inr (2, [.int 1, .ref q1, .ref q2, .ref q3, .ref q4])))) S hK hP hD hS hiX2 tyX2_ok nmX2 (Nat.le_of_ble_eq_true rfl) rfl rfl (by decide) (by decide +kernel) rfl hnm rfl (by decide +kernel) rfl rfl (Nat.le_of_ble_eq_true rfl) (fun _ _ => rfl) dX2_init_50 (fun H locs hP hD hS => ?_)
  obtain ⟨κ, hκe⟩ : ∃ κ : Nat → Nat, κ = (up7 (up7 (upn (up7 (fun _ => h0) 1 q1 r1) 8 q2) 9 q3 r3) 16 q4 r4) := ⟨_, rfl⟩
  have hκ0 : κ 0 = h0 := by rw [hκe]; rfl
  have k2 : ∀ i, i < 6 → κ (2 + i) = r1 i := fun i hi => by
    rw [hκe, up7_lt (by omega), up7_lt (by omega), upn_ne (by omega), up7_gt (by omega), show 2 + i - (1 + 1) = i by omega]
  have k10 : ∀ i, i < 6 → κ (10 + i) = r3 i := fun i hi => by
    rw [hκe, up7_lt (by omega), up7_gt (by omega), show 10 + i - (9 + 1) = i by omega]
  have k17 : ∀ i, i < 6 → κ (17 + i) = r4 i := fun i hi => by
    rw [hκe, up7_gt (by omega), show 17 + i - (16 + 1) = i by omega]
  rw [← hκe] at hP hD
  obtain ⟨F, hF⟩ : ∃ F : Nat → va_E, F = (upn (up7 (upn (up7 (upn (upn (upn (up7 (fun _ => .inr (2, [.int 1, .null, .null, .null, .null])) 1 (.inl (cII, 6, .inr (.inr (.inr (.inr (fun i => some (r1 i))))))) fun _ => .inl (cI, 12, .inl fun _ => 0)) 0 (.inr (2, [.int 1, .ref q1, .null, .null, .null]))) 8 (.inl (cI, 6, .inl fun _ => 0))) 0 (.inr (2, [.int 1, .ref q1, .ref q2, .null, .null]))) 9 (.inl (cII, 6, .inr (.inr (.inr (.inr (fun i => some (r3 i))))))) fun _ => .inl (cI, 64, .inl fun _ => 0)) 0 (.inr (2, [.int 1, .ref q1, .ref q2, .ref q3, .null]))) 16 (.inl (cII, 6, .inr (.inr (.inr (.inr (fun i => some (r4 i))))))) fun _ => .inl (cI, 64, .inl fun _ => 0)) 0 (.inr (2, [.int 1, .ref q1, .ref q2, .ref q3, .ref q4]))) := ⟨_, rfl⟩
  rw [← hF] at hP hD
  have hI := D_inj hD
  have hA := D_A hD
  have f2 : ∀ i, i < 6 → F (2 + i) = .inl (cI, 12, .inl fun _ => 0) := fun i hi => by
    rw [hF, upn_ne (by omega), up7_lt (by omega), upn_ne (by omega), up7_lt (by omega), upn_ne (by omega), upn_ne (by omega), upn_ne (by omega), up7_gt (by omega)]
  have f10 : ∀ i, i < 6 → F (10 + i) = .inl (cI, 64, .inl fun _ => 0) := fun i hi => by
    rw [hF, upn_ne (by omega), up7_lt (by omega), upn_ne (by omega), up7_gt (by omega)]
  have f17 : ∀ i, i < 6 → F (17 + i) = .inl (cI, 64, .inl fun _ => 0) := fun i hi => by
    rw [hF, upn_ne (by omega), up7_gt (by omega)]
  have hP : va_P D vwCl (gw 23 κ (sC cI cII κ ((fun k => if k = 0 then 1 else 0, fun _ _ => 0) : SX))) H := by
    refine pw_to (lt23 ?_ ?_ ?_ ?_ ?_ ?_ ?_ ?_)
    · have := pw_of hP (k := 0) (by decide)
      rw [hF, hκe] at this; rw [hκe]; exact this
    · have := pw_of hP (k := 1) (by decide)
      show H[κ 1]? = some (vp_cell cII _)
      rw [vp_rows k2]; rw [hF] at this; exact this
    · have := pw_of hP (k := 8) (by decide)
      rw [hF] at this; exact this
    · have := pw_of hP (k := 9) (by decide)
      show H[κ 9]? = some (vp_cell cII _)
      rw [vp_rows k10]; rw [hF] at this; exact this
    · have := pw_of hP (k := 16) (by decide)
      show H[κ 16]? = some (vp_cell cII _)
      rw [vp_rows k17]; rw [hF] at this; exact this
    · intro i hi
      have := pw_of hP (k := 2 + i) (by omega)
      rw [f2 i hi] at this
      rw [sC_arr (by omega) (sLen2 hi)]; exact this
    · intro i hi
      have := pw_of hP (k := 10 + i) (by omega)
      rw [f10 i hi] at this
      rw [sC_arr (by omega) (sLen10 hi)]; exact this
    · intro i hi
      have := pw_of hP (k := 17 + i) (by omega)
      rw [f17 i hi] at this
      rw [sC_arr (by omega) (sLen17 hi)]; exact this
  obtain ⟨σ', hf, g1, g2, g3⟩ := P_X2_init ((fun k => if k = 0 then 1 else 0, fun _ _ => 0) : SX)
  refine wk_X2_init hI S hK hP hA hS (by rw [hκ0]; exact hl) hf (fun H locs ls hP hS => ?_)
  exact W.vret S.1 S.2.1 hr (fun t ht hW => ⟨⟨(κ, σ'), rfl, ⟨hκ0, hI, hA, by rw [g1]; rfl, g2, fun a ha => (g3 a ha).trans rfl⟩, by rw [ht]; exact hP, KX.warm hW hK⟩, hS.F ht⟩) hS.2.2 dX2_init_90 hlk
