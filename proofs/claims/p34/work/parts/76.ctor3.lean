/-! 76: the constructor of the class -/
def upj {α : Type} (f : Nat → α) (n : Nat) (g : Nat → α) : Nat → α := fun k => if k < n then f k else g (k - n)
theorem upj_lt {α : Type} {f g : Nat → α} {n k : Nat} (h : k < n) : upj f n g k = f k := if_pos h
theorem upj_ge {α : Type} {f g : Nat → α} {n k : Nat} (h : n ≤ k) : upj f n g k = g (k - n) := if_neg (by omega)
theorem k_join {D : va_G} {A : Nat → Prop} {n mm : Nat} {κ κs : Nat → Nat} {f fs : Nat → va_E} {H H1 : Heap} (hP : va_P D vwCl (gw (n + 1) κ f) H) (hD : va_D A (gw (n + 1) κ f)) (hP1 : va_P D vwCl (gw mm κs fs) H1) (h0 : κs 0 = κ n) (hI : Inj mm κs) (hC : ∀ k, k < mm → cA (κ n) H.size (κs k))
    (hk : ∀ q : Nat, q < H.size → ¬ cA (κ n) H.size q → H1[q]? = H[q]?) (hA : ∀ q, H.size ≤ q → A q) : va_P D vwCl (gw (n + mm) (upj κ n κs) (upj f n fs)) H1 ∧ va_D A (gw (n + mm) (upj κ n κs) (upj f n fs)) := by
  have lt : ∀ k, k < n + 1 → κ k < H.size := fun k hk => (pw_of hP hk).lt
  have ne : ∀ k, k < n → ¬ cA (κ n) H.size (κ k) := fun k hk z => z.elim (fun z => by
    have := D_inj hD k n (by omega) (by omega) z
    omega) (fun z => absurd (lt k (by omega)) (Nat.not_lt.mpr z))
  refine ⟨pw_to fun k hk1 => ?_, gw_D (fun i j hi hj e => ?_) (fun k hk1 => ?_)⟩
  · by_cases c : k < n
    · rw [upj_lt c, upj_lt c]
      exact (pw_of hP (k := k) (by omega)).kept (hk _ (lt k (by omega)) (ne k c))
    · rw [upj_ge (by omega), upj_ge (by omega)]
      exact pw_of hP1 (by omega)
  · by_cases ci : i < n
    · rw [upj_lt ci] at e
      by_cases cj : j < n
      · rw [upj_lt cj] at e; exact D_inj hD i j (by omega) (by omega) e
      · rw [upj_ge (by omega)] at e
        exact absurd (e ▸ hC (j - n) (by omega)) (ne i ci)
    · rw [upj_ge (by omega)] at e
      by_cases cj : j < n
      · rw [upj_lt cj] at e
        exact absurd (e ▸ hC (i - n) (by omega)) (ne j cj)
      · rw [upj_ge (by omega)] at e
        have := hI _ _ (by omega) (by omega) e
        omega
  · by_cases c : k < n
    · rw [upj_lt c]; exact D_A hD k (by omega)
    · rw [upj_ge (by omega)]
      exact (hC (k - n) (by omega)).elim (fun z => by rw [z]; exact D_A hD n (by omega)) (fun z => hA _ z)
def idx (k : Nat) : Nat := match k with
  | 0 => 0
  | 1 => 1
  | 2 => 24
  | 3 => 26
  | 4 => 2
  | 5 => 9
  | 6 => 10
  | 7 => 17
  | 8 => 25
  | 9 => 27
  | 10 => 28
  | 11 => 29
  | 12 => 30
  | k => if k < 19 then k - 10 else if k < 25 then k - 8 else k - 7
theorem idx_lt : ∀ i, i < 31 → idx i < 31 := by decide +kernel
theorem idx_inj : ∀ i, i < 31 → ∀ j, j < 31 → idx i = idx j → i = j := by decide +kernel
theorem idx13 {i : Nat} (h : i < 6) : idx (13 + i) = 3 + i := by
  rcases (show i = 0 ∨ i = 1 ∨ i = 2 ∨ i = 3 ∨ i = 4 ∨ i = 5 by omega) with rfl | rfl | rfl | rfl | rfl | rfl <;> rfl
theorem idx19 {i : Nat} (h : i < 6) : idx (19 + i) = 11 + i := by
  rcases (show i = 0 ∨ i = 1 ∨ i = 2 ∨ i = 3 ∨ i = 4 ∨ i = 5 by omega) with rfl | rfl | rfl | rfl | rfl | rfl <;> rfl
theorem idx25 {i : Nat} (h : i < 6) : idx (25 + i) = 18 + i := by
  rcases (show i = 0 ∨ i = 1 ∨ i = 2 ∨ i = 3 ∨ i = 4 ∨ i = 5 by omega) with rfl | rfl | rfl | rfl | rfl | rfl <;> rfl
theorem lt31 {P : Nat → Prop} (hh : ∀ k, k < 13 → P k) (ha : ∀ i, i < 6 → P (13 + i)) (hb : ∀ i, i < 6 → P (19 + i)) (hc : ∀ i, i < 6 → P (25 + i)) : ∀ k, k < 31 → P k := by
  intro k hk
  by_cases c0 : k < 13
  · exact hh k c0
  by_cases a1 : k < 19
  · have := ha (k - 13) (by omega); rwa [show 13 + (k - 13) = k by omega] at this
  by_cases a2 : k < 25
  · have := hb (k - 19) (by omega); rwa [show 19 + (k - 19) = k by omega] at this
  have := hc (k - 25) (by omega); rwa [show 25 + (k - 25) = k by omega] at this
theorem lt13 {P : Nat → Prop} (h0 : P 0) (h1 : P 1) (h2 : P 2) (h3 : P 3) (h4 : P 4) (h5 : P 5) (h6 : P 6) (h7 : P 7) (h8 : P 8) (h9 : P 9) (h10 : P 10) (h11 : P 11) (h12 : P 12) : ∀ k, k < 13 → P k := fun k hk => match k, hk with
  | 0, _ => h0
  | 1, _ => h1
  | 2, _ => h2
  | 3, _ => h3
  | 4, _ => h4
  | 5, _ => h5
  | 6, _ => h6
  | 7, _ => h7
  | 8, _ => h8
  | 9, _ => h9
  | 10, _ => h10
  | 11, _ => h11
  | 12, _ => h12
theorem src_T0 {l : Nat} {P : Nat → Bool} : src T0 l P = 0 := by
  unfold src
  exact Eq.trans (mask_congr fun k _ => rfl) mask_0
theorem XI_new {σ : SX} (h0 : σ.1 0 = 1) (h2 : σ.1 2 = 0) (h3 : σ.1 3 = 0) (he : ∀ l s, l < 6 → s < 12 → σ.2 (13 + l) s = -1) (h5 : σ.2 5 = fun _ => 0) (hs : ∀ a, 19 ≤ a → σ.2 a = fun _ => 0) : XI σ 1 T0 none := by
  refine ⟨⟨⟨h0, fun l s hl hs => he l s hl hs, fun l hl => ?_⟩, fun l hl => ⟨fun a ha => ?_, fun a ha => ?_⟩⟩, Or.inl h2, h3⟩
  · rw [h5, src_T0]; rfl
  · rw [hs _ (by omega), src_T0]; rfl
  · rw [hs _ (by omega), src_T0]; rfl
/-- what the class holds when it is made -/
def newX (σs : SX) : SX := (fun k => if k = 0 then 1 else 0, fun a => if 13 ≤ a ∧ a < 19 then σs.2 (a - 11) else fun _ => 0)
theorem newX_XI {σs : SX} (h : NewS σs) : XI (newX σs) 1 T0 none := by
  refine XI_new rfl rfl rfl (fun l s hl hs => ?_) rfl (fun a ha => show (if 13 ≤ a ∧ a < 19 then σs.2 (a - 11) else fun _ => 0) = _ from if_neg (by omega))
  show (if 13 ≤ 13 + l ∧ 13 + l < 19 then σs.2 (13 + l - 11) else fun _ => 0) s = -1
  rw [if_pos (by omega), show 13 + l - 11 = 2 + l by omega]
  exact h.2.1 l s hl hs
set_option maxRecDepth 100000 in
set_option maxHeartbeats 4000000 in
theorem met_X3_init (l : Launch) (D : va_G) (cI cII : ClassId) (h0 sz : Nat) : Met l yX3_init wsX3_init ({ frames := 2, cells := 30, slots := 5220, locals := 36 } : Room) (va_Pc [.ref h0] (cP D cI cII sz h0 (.inr (3, [.null, .null, .null]))))
    (va_Qv (fun (u : (Nat → Nat) × SX) => u.1 0 = h0 ∧ Inj 31 u.1 ∧ (∀ k, k < 31 → cA h0 sz (u.1 k)) ∧ XI u.2 1 T0 none) (fun u t => gP D cI cII 31 u.1 (xC cI cII u.1 u.2) t) (cA h0 sz)) 30 5220 (cA h0 sz) := by
  refine g_enter (cc := cX3_init) (maxL := 1) (ret := none) (by decide) rfl (Nat.le_of_ble_eq_true rfl) ?_
  intro p e s m args below meth c ls S hr hlk hnm hB hl
  have S : CallFix p m c cX3_init 1 s args wsX3_init RX3 := S
  obtain ⟨hsz, ⟨hP, hK⟩, hAO⟩ := hB
  have hl : lv_has ls 1 [(0, .ref h0)] := hl
  have hS : va_S (cA h0 sz) s.heap s.heap [] := va_S.rf
  have hA2 : ∀ q, s.heap.size ≤ q → cA h0 sz q := fun q h => Or.inr (hsz ▸ h)
  have hD : va_D (cA h0 sz) (gw 1 (fun _ => h0) fun _ => (.inr (3, [.null, .null, .null]))) := gw_D (fun i j hi hj _ => by omega) (fun k _ => Or.inl rfl)
  obtain ⟨hx, hb, hml, hown, hts⟩ := id S
  have hiX3 : ∀ w ∈ u_ws RX3 TX3 3, w ∈ wsX3_init := by decide +kernel
  refine lv_aload_n hx hb dX3_init_0 rfl (lv_at hl 0 rfl) ?_
  refine W.objInit hx hb hown (hts (.methodLink RX3 1 objectInit) (by decide +kernel)) (hts (.instanceMethod objectInit) (by decide +kernel)) (hts (.code objectInit ⟨#[0xb1]⟩ 1 none) (by decide +kernel)) rfl (by rw [hml]; exact hl.1) rfl dX3_init_1 (Nat.le_of_ble_eq_true rfl) (Nat.le_of_ble_eq_true rfl) ?_
  refine W.eq (g2 := F0 m 4 ls []) rfl ?_
  refine lv_aload_n hx hb dX3_init_4 rfl (lv_at hl 0 rfl) ?_
  refine k_new (ci := 2) (N := 5) (index := 7) (C := RX2) (T := TX2) (fs := [.int 0, .null, .null, .null, .null]) tyX2 S hK (by decide +kernel) tyX2_ok (by decide +kernel) (by decide +kernel) (by decide +kernel) hP hD hA2 hS rfl (fun j hj => by rcases (show j = 0 ∨ j = 1 ∨ j = 2 ∨ j = 3 ∨ j = 4 by omega) with rfl | rfl | rfl | rfl | rfl <;> rfl) (Nat.le_of_ble_eq_true rfl) (Nat.le_of_ble_eq_true rfl) dX3_init_5 (fun q1 H hP hD hS => ?_)
  refine lv_dup hx hb dX3_init_8 rfl ?_
  have hPc : va_P D vwCl (gw 1 (fun _ => q1) fun _ => (.inr (2, [.int 0, .null, .null, .null, .null]))) H := pw_to fun k hk => pw_of hP (k := 1) (by decide)
  have hge : ∀ z, H.size ≤ z → cA h0 sz z := fun z h => hA2 z (Nat.le_trans hS.1 h)
  have hFc : ∀ z, cA q1 H.size z → cA h0 sz z := fun z h => h.elim (fun h => by rw [h]; exact D_A hD 1 (by decide)) (hge z)
  refine va_callv (va_runI (As := []) (rest := [.ref q1, .ref h0]) S (met_X2_init l D cI cII q1 H.size) (cwI 0 S.2.2.2.2 gX3_init_X2_init rfl rfl rfl (hts (.initialized RX2) (by decide +kernel)) (hts (.methodLink RX3 9 yX2_init) (by decide +kernel)) (hts (.instanceMethod yX2_init) (by decide +kernel)) rfl (by decide +kernel) ⟨Nat.le_of_ble_eq_true rfl, Nat.le_of_ble_eq_true rfl⟩) ⟨cP.blind, fun U hU hW => ⟨rfl, by rw [hU], ⟨by rw [hU]; exact hPc, KX.warm hW hK⟩, va_AOA.warm hW hAO⟩⟩ rfl rfl hl.1 rfl (lv_room (Nat.le_of_ble_eq_true rfl)) dX3_init_9 ⟨Nat.le_of_ble_eq_true rfl, Nat.le_of_ble_eq_true rfl⟩) hS (fun z _ h => hFc z h) hFc (fun us t H1 locs1 ht hvm hw hB hz1 hk1 hS1 => ?_)
  obtain ⟨w0, wI, wA, wN⟩ := hw
  obtain ⟨hP1, -⟩ := hB
  rw [ht] at hP1
  obtain ⟨hP, hD⟩ := k_join (n := 1) (mm := 23) hP hD hP1 w0 wI wA hk1 hge
  clear hPc hFc hge ht hz1 hk1
  generalize H1 = H at hP hP1 hS1 ⊢
  have hS := hS1
  have e1 : upj (upn (fun _ => h0) 1 q1) 1 us.1 0 = h0 := rfl
  refine k_putF (κ := (upj (upn (fun _ => h0) 1 q1) 1 us.1)) (q := 0) (ci := 3) (k := 0) (C := RX3) (T := TX3) (N := 3) (index := 10) (ty := .object "RegionNets$Steps") (f' := (upn (upj (upn (fun _ => .inr (3, [.null, .null, .null])) 1 (.inr (2, [.int 0, .null, .null, .null, .null]))) 1 (sC cI cII us.1 us.2)) 0 (.inr (3, [.ref q1, .null, .null])))) S hK hP hD hS hiX3 tyX3_ok nmX3 (Nat.le_of_ble_eq_true rfl) rfl rfl (by decide) (by decide +kernel) rfl hnm rfl (by decide +kernel) rfl rfl (Nat.le_of_ble_eq_true rfl) (fun _ _ => rfl) dX3_init_12 (fun H locs hP hD hS => ?_)
  refine lv_aload_n hx hb dX3_init_15 rfl (lv_at hl 0 rfl) ?_
  refine k_new (ci := 1) (N := 4) (index := 16) (C := RX1) (T := TX1) (fs := [.null, .null, .int 0, .int 0]) tyX1 S hK (by decide +kernel) tyX1_ok (by decide +kernel) (by decide +kernel) (by decide +kernel) hP hD hA2 hS rfl (fun j hj => by rcases (show j = 0 ∨ j = 1 ∨ j = 2 ∨ j = 3 by omega) with rfl | rfl | rfl | rfl <;> rfl) (Nat.le_of_ble_eq_true rfl) (Nat.le_of_ble_eq_true rfl) dX3_init_16 (fun q2 H hP hD hS => ?_)
  refine lv_dup hx hb dX3_init_19 rfl ?_
  refine lv_aload_n hx hb dX3_init_20 rfl (lv_at hl 0 rfl) ?_
  refine g_get (κ := (upn (upj (upn (fun _ => h0) 1 q1) 1 us.1) 24 q2)) (q := 0) (ci := 3) (k := 0) (ref := RX3) (C := RX3) (T := TX3) (N := 3) (index := 10) (v := .ref q1) S hK hP hiX3 (by decide) rfl rfl (by decide) rfl (by decide +kernel) rfl dX3_init_21 ?_
  have hPc : va_P D vwCl (gw 1 (fun _ => q2) fun _ => (.inr (1, [.null, .null, .int 0, .int 0]))) H := pw_to fun k hk => pw_of hP (k := 24) (by decide)
  have hge : ∀ z, H.size ≤ z → cA h0 sz z := fun z h => hA2 z (Nat.le_trans hS.1 h)
  have hFc : ∀ z, cA q2 H.size z → cA h0 sz z := fun z h => h.elim (fun h => by rw [h]; exact D_A hD 24 (by decide)) (hge z)
  refine va_callv (va_runI (As := [.ref q1]) (rest := [.ref q2, .ref h0]) S (met_X1_init l D cI cII q2 q1 H.size) (cwI 1 S.2.2.2.2 gX3_init_X1_init rfl rfl rfl (hts (.initialized RX1) (by decide +kernel)) (hts (.methodLink RX3 18 yX1_init) (by decide +kernel)) (hts (.instanceMethod yX1_init) (by decide +kernel)) rfl (by decide +kernel) ⟨Nat.le_of_ble_eq_true rfl, Nat.le_of_ble_eq_true rfl⟩) ⟨cP.blind, fun U hU hW => ⟨rfl, by rw [hU], ⟨by rw [hU]; exact hPc, KX.warm hW hK⟩, va_AOA.warm hW hAO⟩⟩ rfl rfl hl.1 rfl (lv_room (Nat.le_of_ble_eq_true rfl)) dX3_init_24 ⟨Nat.le_of_ble_eq_true rfl, Nat.le_of_ble_eq_true rfl⟩) hS (fun z _ h => hFc z h) hFc (fun ur t H1 locs1 ht hvm hw hB hz1 hk1 hS1 => ?_)
  obtain ⟨x0, xI, xA⟩ := hw
  obtain ⟨hP1, -⟩ := hB
  rw [ht] at hP1
  obtain ⟨hP, hD⟩ := k_join (n := 24) (mm := 2) hP hD hP1 x0 xI xA hk1 hge
  clear hPc hFc hge ht hz1 hk1
  generalize H1 = H at hP hP1 hS1 ⊢
  have hS := hS1
  refine k_putF (κ := (upj (upn (upj (upn (fun _ => h0) 1 q1) 1 us.1) 24 q2) 24 ur)) (q := 0) (ci := 3) (k := 1) (C := RX3) (T := TX3) (N := 3) (index := 21) (ty := .object "RegionNets$Regions") (f' := (upn (upj (upn (upn (upj (upn (fun _ => .inr (3, [.null, .null, .null])) 1 (.inr (2, [.int 0, .null, .null, .null, .null]))) 1 (sC cI cII us.1 us.2)) 0 (.inr (3, [.ref q1, .null, .null]))) 24 (.inr (1, [.null, .null, .int 0, .int 0]))) 24 (rC q1 cI ur)) 0 (.inr (3, [.ref q1, .ref q2, .null])))) S hK hP hD hS hiX3 tyX3_ok nmX3 (Nat.le_of_ble_eq_true rfl) rfl rfl (by decide) (by decide +kernel) rfl hnm rfl (by decide +kernel) rfl rfl (Nat.le_of_ble_eq_true rfl) (fun _ _ => rfl) dX3_init_27 (fun H locs hP hD hS => ?_)
  refine lv_aload_n hx hb dX3_init_30 rfl (lv_at hl 0 rfl) ?_
  refine k_new (ci := 0) (N := 11) (index := 25) (C := RX0) (T := TX0) (fs := [.null, .null, .int 0, .int 0, .null, .null, .null, .int 0, .int 0, .null, .int 0]) tyX0 S hK (by decide +kernel) tyX0_ok (by decide +kernel) (by decide +kernel) (by decide +kernel) hP hD hA2 hS rfl (fun j hj => by rcases (show j = 0 ∨ j = 1 ∨ j = 2 ∨ j = 3 ∨ j = 4 ∨ j = 5 ∨ j = 6 ∨ j = 7 ∨ j = 8 ∨ j = 9 ∨ j = 10 by omega) with rfl | rfl | rfl | rfl | rfl | rfl | rfl | rfl | rfl | rfl | rfl <;> rfl) (Nat.le_of_ble_eq_true rfl) (Nat.le_of_ble_eq_true rfl) dX3_init_31 (fun q3 H hP hD hS => ?_)
  refine lv_dup hx hb dX3_init_34 rfl ?_
  refine lv_aload_n hx hb dX3_init_35 rfl (lv_at hl 0 rfl) ?_
  refine g_get (κ := (upn (upj (upn (upj (upn (fun _ => h0) 1 q1) 1 us.1) 24 q2) 24 ur) 26 q3)) (q := 0) (ci := 3) (k := 0) (ref := RX3) (C := RX3) (T := TX3) (N := 3) (index := 10) (v := .ref q1) S hK hP hiX3 (by decide) rfl rfl (by decide) rfl (by decide +kernel) rfl dX3_init_36 ?_
  refine lv_aload_n hx hb dX3_init_39 rfl (lv_at hl 0 rfl) ?_
  refine g_get (κ := (upn (upj (upn (upj (upn (fun _ => h0) 1 q1) 1 us.1) 24 q2) 24 ur) 26 q3)) (q := 0) (ci := 3) (k := 1) (ref := RX3) (C := RX3) (T := TX3) (N := 3) (index := 21) (v := .ref q2) S hK hP hiX3 (by decide) rfl rfl (by decide) rfl (by decide +kernel) rfl dX3_init_40 ?_
  have hPc : va_P D vwCl (gw 1 (fun _ => q3) fun _ => (.inr (0, [.null, .null, .int 0, .int 0, .null, .null, .null, .int 0, .int 0, .null, .int 0]))) H := pw_to fun k hk => pw_of hP (k := 26) (by decide)
  have hge : ∀ z, H.size ≤ z → cA h0 sz z := fun z h => hA2 z (Nat.le_trans hS.1 h)
  have hFc : ∀ z, cA q3 H.size z → cA h0 sz z := fun z h => h.elim (fun h => by rw [h]; exact D_A hD 26 (by decide)) (hge z)
  refine va_callv (va_runI (As := [.ref q1, .ref q2]) (rest := [.ref q3, .ref h0]) S (met_X0_init l D cI cII q3 q1 q2 H.size) (cwI 2 S.2.2.2.2 gX3_init_X0_init rfl rfl rfl (hts (.initialized RX0) (by decide +kernel)) (hts (.methodLink RX3 27 yX0_init) (by decide +kernel)) (hts (.instanceMethod yX0_init) (by decide +kernel)) rfl (by decide +kernel) ⟨Nat.le_of_ble_eq_true rfl, Nat.le_of_ble_eq_true rfl⟩) ⟨cP.blind, fun U hU hW => ⟨rfl, by rw [hU], ⟨by rw [hU]; exact hPc, KX.warm hW hK⟩, va_AOA.warm hW hAO⟩⟩ rfl rfl hl.1 rfl (lv_room (Nat.le_of_ble_eq_true rfl)) dX3_init_43 ⟨Nat.le_of_ble_eq_true rfl, Nat.le_of_ble_eq_true rfl⟩) hS (fun z _ h => hFc z h) hFc (fun un t H1 locs1 ht hvm hw hB hz1 hk1 hS1 => ?_)
  obtain ⟨y0, yI, yA⟩ := hw
  obtain ⟨hP1, -⟩ := hB
  rw [ht] at hP1
  obtain ⟨hP, hD⟩ := k_join (n := 26) (mm := 5) hP hD hP1 y0 yI yA hk1 hge
  clear hPc hFc hge ht hz1 hk1
  generalize H1 = H at hP hP1 hS1 ⊢
  have hS := hS1
  refine k_putF (κ := (upj (upn (upj (upn (upj (upn (fun _ => h0) 1 q1) 1 us.1) 24 q2) 24 ur) 26 q3) 26 un)) (q := 0) (ci := 3) (k := 2) (C := RX3) (T := TX3) (N := 3) (index := 30) (ty := .object "RegionNets$Net") (f' := (upn (upj (upn (upn (upj (upn (upn (upj (upn (fun _ => .inr (3, [.null, .null, .null])) 1 (.inr (2, [.int 0, .null, .null, .null, .null]))) 1 (sC cI cII us.1 us.2)) 0 (.inr (3, [.ref q1, .null, .null]))) 24 (.inr (1, [.null, .null, .int 0, .int 0]))) 24 (rC q1 cI ur)) 0 (.inr (3, [.ref q1, .ref q2, .null]))) 26 (.inr (0, [.null, .null, .int 0, .int 0, .null, .null, .null, .int 0, .int 0, .null, .int 0]))) 26 (nC q1 q2 cI un)) 0 (.inr (3, [.ref q1, .ref q2, .ref q3])))) S hK hP hD hS hiX3 tyX3_ok nmX3 (Nat.le_of_ble_eq_true rfl) rfl rfl (by decide) (by decide +kernel) rfl hnm rfl (by decide +kernel) rfl rfl (Nat.le_of_ble_eq_true rfl) (fun _ _ => rfl) dX3_init_46 (fun H locs hP hD hS => ?_)
  obtain ⟨K, hKe⟩ : ∃ K : Nat → Nat, K = (upj (upn (upj (upn (upj (upn (fun _ => h0) 1 q1) 1 us.1) 24 q2) 24 ur) 26 q3) 26 un) := ⟨_, rfl⟩
  obtain ⟨F, hF⟩ : ∃ F : Nat → va_E, F = (upn (upj (upn (upn (upj (upn (upn (upj (upn (fun _ => .inr (3, [.null, .null, .null])) 1 (.inr (2, [.int 0, .null, .null, .null, .null]))) 1 (sC cI cII us.1 us.2)) 0 (.inr (3, [.ref q1, .null, .null]))) 24 (.inr (1, [.null, .null, .int 0, .int 0]))) 24 (rC q1 cI ur)) 0 (.inr (3, [.ref q1, .ref q2, .null]))) 26 (.inr (0, [.null, .null, .int 0, .int 0, .null, .null, .null, .int 0, .int 0, .null, .int 0]))) 26 (nC q1 q2 cI un)) 0 (.inr (3, [.ref q1, .ref q2, .ref q3]))) := ⟨_, rfl⟩
  have w0' : us.1 0 = q1 := w0
  have x0' : ur 0 = q2 := x0
  have y0' : un 0 = q3 := y0
  have hP0 := hP
  have hD0 := hD
  rw [← hKe, ← hF] at hP0 hD0
  have pw : ∀ k, k < 31 → va_at D vwCl (K (idx k), F (idx k)) H := fun k hk => pw_of hP0 (idx_lt k hk)
  have K13 : ∀ i, i < 6 → K (idx (13 + i)) = us.1 (2 + i) := fun i hi => by
    rw [idx13 hi, hKe, upj_lt (by omega), upn_ne (by omega), upj_lt (by omega), upn_ne (by omega), upj_ge (by omega), show 3 + i - 1 = 2 + i by omega]
  have K19 : ∀ i, i < 6 → K (idx (19 + i)) = us.1 (10 + i) := fun i hi => by
    rw [idx19 hi, hKe, upj_lt (by omega), upn_ne (by omega), upj_lt (by omega), upn_ne (by omega), upj_ge (by omega), show 11 + i - 1 = 10 + i by omega]
  have K25 : ∀ i, i < 6 → K (idx (25 + i)) = us.1 (17 + i) := fun i hi => by
    rw [idx25 hi, hKe, upj_lt (by omega), upn_ne (by omega), upj_lt (by omega), upn_ne (by omega), upj_ge (by omega), show 18 + i - 1 = 17 + i by omega]
  have fst : ∀ k, 1 ≤ k → k < 24 → F k = sC cI cII us.1 us.2 (k - 1) := fun k h1 h2 => by
    rw [hF, upn_ne (by omega), upj_lt (by omega), upn_ne (by omega), upn_ne (by omega), upj_lt (by omega), upn_ne (by omega), upn_ne (by omega), upj_ge (by omega)]
  have hfin : va_P D vwCl (gw 31 (fun k => K (idx k)) (xC cI cII (fun k => K (idx k)) (newX us.2))) H := by
    refine pw_to (lt31 (lt13 ?_ ?_ ?_ ?_ ?_ ?_ ?_ ?_ ?_ ?_ ?_ ?_ ?_) ?_ ?_ ?_)
    · have := pw 0 (by decide)
      rw [hF, hKe] at this
      rw [hKe]
      show va_at D vwCl (_, .inr (3, [.ref (us.1 0), .ref (ur 0), .ref (un 0)])) H
      rw [w0', x0', y0']
      exact this
    · have := pw 1 (by decide)
      rw [show idx 1 = 1 from rfl, fst 1 (by decide) (by decide)] at this
      rw [hKe] at this ⊢
      show va_at D vwCl (_, .inr (2, [.int 1, .ref (us.1 1), .ref (us.1 8), .ref (us.1 9), .ref (us.1 16)])) H
      rw [← wN.1]
      exact this
    · have := pw 2 (by decide)
      rw [hF, hKe] at this
      rw [hKe]
      show va_at D vwCl (_, .inr (1, [.ref (us.1 0), .ref (ur 1), .int 0, .int 0])) H
      rw [w0']
      exact this
    · have := pw 3 (by decide)
      rw [hF, hKe] at this
      rw [hKe]
      show va_at D vwCl (_, .inr (0, [.ref (us.1 0), .ref (ur 0), .int 0, .int 0, .ref (un 1), .ref (un 2), .ref (un 3), .int 0, .int 0, .ref (un 4), .int 0])) H
      rw [w0', x0']
      exact this
    · have := pw 4 (by decide)
      rw [show idx 4 = 2 from rfl, fst 2 (by decide) (by decide)] at this
      show H[K (idx 4)]? = some (vp_cell cII _)
      rw [vp_rows K13]
      exact this
    · have := pw 5 (by decide)
      rw [show idx 5 = 9 from rfl, fst 9 (by decide) (by decide)] at this
      have h8 : H[K 9]? = some (vp_cell cI (6, .inl (us.2.2 8))) := this
      rw [wN.2.2 8 (by omega)] at h8
      exact h8
    · have := pw 6 (by decide)
      rw [show idx 6 = 10 from rfl, fst 10 (by decide) (by decide)] at this
      show H[K (idx 6)]? = some (vp_cell cII _)
      rw [vp_rows K19]
      exact this
    · have := pw 7 (by decide)
      rw [show idx 7 = 17 from rfl, fst 17 (by decide) (by decide)] at this
      show H[K (idx 7)]? = some (vp_cell cII _)
      rw [vp_rows K25]
      exact this
    · have := pw 8 (by decide)
      rw [hF, hKe] at this
      rw [hKe]
      exact this
    · have := pw 9 (by decide)
      rw [hF, hKe] at this
      rw [hKe]
      exact this
    · have := pw 10 (by decide)
      rw [hF, hKe] at this
      rw [hKe]
      exact this
    · have := pw 11 (by decide)
      rw [hF, hKe] at this
      rw [hKe]
      exact this
    · have := pw 12 (by decide)
      rw [hF, hKe] at this
      rw [hKe]
      exact this
    · intro i hi
      have := pw (13 + i) (by omega)
      show va_at D vwCl (K (idx (13 + i)), _) H
      rw [idx13 hi] at this ⊢
      rw [fst _ (by omega) (by omega), show 3 + i - 1 = 2 + i by omega, sC_arr (by omega) (sLen2 hi)] at this
      rw [xC_arr (by omega) (xLen13 hi)]
      have e : (newX us.2).2 (13 + i) = us.2.2 (2 + i) := by
        show (if 13 ≤ 13 + i ∧ 13 + i < 19 then us.2.2 (13 + i - 11) else fun _ => 0) = _
        rw [if_pos (by omega), show 13 + i - 11 = 2 + i by omega]
      rw [e]
      exact this
    · intro i hi
      have := pw (19 + i) (by omega)
      show va_at D vwCl (K (idx (19 + i)), _) H
      rw [idx19 hi] at this ⊢
      rw [fst _ (by omega) (by omega), show 11 + i - 1 = 10 + i by omega, sC_arr (by omega) (sLen10 hi), wN.2.2 _ (by omega)] at this
      rw [xC_arr (by omega) (xLen19 hi)]
      have e : (newX us.2).2 (19 + i) = fun _ => 0 := by
        show (if 13 ≤ 19 + i ∧ 19 + i < 19 then us.2.2 (19 + i - 11) else fun _ => 0) = _
        rw [if_neg (by omega)]
      rw [e]
      exact this
    · intro i hi
      have := pw (25 + i) (by omega)
      show va_at D vwCl (K (idx (25 + i)), _) H
      rw [idx25 hi] at this ⊢
      rw [fst _ (by omega) (by omega), show 18 + i - 1 = 17 + i by omega, sC_arr (by omega) (sLen17 hi), wN.2.2 _ (by omega)] at this
      rw [xC_arr (by omega) (xLen25 hi)]
      have e : (newX us.2).2 (25 + i) = fun _ => 0 := by
        show (if 13 ≤ 25 + i ∧ 25 + i < 19 then us.2.2 (25 + i - 11) else fun _ => 0) = _
        rw [if_neg (by omega)]
      rw [e]
      exact this
  have hIx : Inj 31 fun k => K (idx k) := fun i j hi hj e => idx_inj i hi j hj (D_inj hD0 _ _ (idx_lt i hi) (idx_lt j hj) e)
  exact W.vret S.1 S.2.1 hr (fun t ht hW => ⟨⟨(fun k => K (idx k), newX us.2), rfl, ⟨by rw [hKe]; rfl, hIx, fun k hk => D_A hD0 _ (idx_lt k hk), newX_XI wN⟩, by rw [ht]; exact hfin, KX.warm hW hK⟩, hS.F ht⟩) hS.2.2 dX3_init_49 hlk
