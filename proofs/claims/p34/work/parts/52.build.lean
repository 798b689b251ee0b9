/-! 52: what build makes -/
def T0 : TT := fun _ _ => none
theorem XI_31 {σ σ' : SX} {n : Nat} {T : TT} {mk : Option Nat} (h : XI σ n T mk) (h1 : σ'.1 = σ.1) (h2 : ∀ a, a ≠ 31 → σ'.2 a = σ.2 a) : XI σ' n T mk := by
  obtain ⟨⟨⟨a1, a2, a3⟩, a4⟩, hk, hn⟩ := h
  refine ⟨⟨⟨by rw [h1]; exact a1, fun l s hl hs => by rw [h2 _ (by omega)]; exact a2 l s hl hs, fun l hl => by rw [h2 _ (by decide)]; exact a3 l hl⟩, fun l hl => ⟨fun a ha => by rw [h2 _ (by omega)]; exact (a4 l hl).1 a ha, fun a ha => by rw [h2 _ (by omega)]; exact (a4 l hl).2 a ha⟩⟩, hk.same (congrFun h1 2) (congrFun h1 1) (h2 8 (by decide)), ?_⟩
  cases mk with
  | none => exact (congrFun h1 3).trans hn
  | some m =>
    obtain ⟨h3, h4, h5, h6, h7⟩ := hn
    refine ⟨(congrFun h1 3).trans h3, ⟨⟨(congrFun h1 4).trans h4.1.1, fun i hi => by rw [h2 9 (by decide)]; exact h4.1.2 i hi⟩, fun l hl => by rw [h2 10 (by decide), h2 11 (by decide)]; exact h4.2.1 l hl, (congrFun h1 5).trans h4.2.2⟩, ?_, (congrFun h1 6).trans h6, h7⟩
    rcases h5 with q | q
    · exact Or.inl ((congrFun h1 7).trans q)
    · exact Or.inr ⟨(congrFun h1 7).trans q.1, fun i hi => by rw [h2 12 (by decide)]; exact q.2 i hi⟩
theorem XI_mrg {σ τ : SX} {n : Nat} {T : TT} {mk : Option Nat} (h : XI τ n T mk) : XI (mrg σ τ) n T mk := XI_31 h rfl (fun _ ha => if_neg ha)
theorem mrg_31 {σ τ : SX} : (mrg σ τ).2 31 = σ.2 31 := by
  show (if 31 = 31 then σ.2 31 else τ.2 31) = σ.2 31
  exact if_pos rfl
theorem letb_K {α β : Type} {e : α} {k : α → β} {P : β → Prop} (h : ∀ K, K = e → P (k K)) : P (letb e k) := h e rfl
theorem bind2_ok {α β γ : Type} {a : α} {b : β} {k : α → β → Option γ} : bind2 (some (a, b)) k = k a b := rfl
theorem nn_ok {k : Nat} (h : k < 2 ^ 31) : nn (nI k) = some () := by
  unfold nn
  rw [if_neg (nI_pos h)]
theorem nn_0 : nn 0 = some () := nn_ok (k := 0) (by decide)
theorem rem_ok {k N : Nat} (hk : k < 2 ^ 31) (h0 : 0 < N) (hN : N < 2 ^ 31) : nI k - nI k / nI N * nI N = nI (k % N) := by
  rw [pk_div hk h0 hN, pk_mul, pk_sub (Nat.div_mul_le_self k N)]
  have h1 := Nat.div_add_mod k N
  have h2 : k / N * N = N * (k / N) := Nat.mul_comm _ _
  rw [show k - k / N * N = k % N by omega]
theorem below_ok (x : Int32) {N : Nat} (h0 : 0 < N) (hN : N < 2 ^ 31) : ∃ r, r < N ∧ fn_L_below x (nI N) = some (nI r) := by
  obtain ⟨k, hk, e⟩ := pk_andE x (m := 2147483647) 31 (by decide)
  refine ⟨k % N, Nat.mod_lt _ h0, ?_⟩
  unfold fn_L_below nz
  rw [e, if_neg (nI_ne0 h0 hN), Option.bind_some, rem_ok hk h0 hN]
def ToD (σ : SX) (T : TT) : Prop := ∀ s l, s < 12 → l < 6 → σ.2 31 (6 * s + l) = enc (T l s)
def BPost (n : Nat) (o : Option (Int32 × SX)) : Prop := ∃ (σ' : SX) (T : TT), o = some (nI n, σ') ∧ Sys n T ∧ XI σ' n T none
set_option maxHeartbeats 2000000 in
theorem B_101 {L : Nat} {xs : Nat → Int32} {n lb N : Nat} (hn : 1 ≤ n) (hn6 : n ≤ 6) (hlb : 1 ≤ lb) (hlb6 : lb ≤ 6) (hN : N < 100) (σ : SX) (T : TT) (hT : Sys n T) (h : XI σ n T none) (hD : ToD σ T) : BPost n (loopF FU (bd_L_build_101 L xs 0 (nI n) (nI lb) (nI N)) (fun _ _ => none) (nI 0) σ) := by
  refine loop_rel (body := bd_L_build_101 L xs 0 (nI n) (nI lb) (nI N)) (bot := fun _ _ => none) (fun k (x : SX) g => g (nI k) x) N (fun _ x => ∃ T, Sys n T ∧ XI x n T none ∧ ToD x T) (BPost n) ?_ ?_ FU 0 σ (Nat.zero_le _) (by unfold FU; omega) ⟨T, hT, h, hD⟩
  · intro rec k x hk hI kk
    obtain ⟨T, hT, h, hD⟩ := hI
    have e1 : ((0 : Int32) + 1) + (nI k - nI k / 6 * 6) = nI (1 + k % 6) := by
      rw [show (6 : Int32) = nI 6 from rfl, rem_ok (by omega) (by decide) (by decide), show (0 : Int32) + 1 = nI 1 from by decide, nI_add]
    rw [bd_L_build_101, if_neg (nI_ge hk (by omega)), e1, nn_ok (by omega), Option.bind_some]
    refine letb_K (P := BPost n) fun w _ => ?_
    refine letb_K (P := BPost n) fun K163 e163 => ?_
    have h163 : ∀ b, b < n → BPost n (K163 (nI b)) := by
      intro b hb
      rw [e163]
      refine letb_K (P := BPost n) fun v12 e12 => ?_
      subst e12
      refine letb_K (P := BPost n) fun K200 e200 => ?_
      have h200 : ∀ t, t < n → BPost n (K200 (nI t)) := by
        intro t ht
        rw [e200]
        refine letb_K (P := BPost n) fun v13 e13 => ?_
        subst e13
        obtain ⟨r, hr, e⟩ := below_ok (w >>> (10 &&& 31)) (N := lb) (by omega) (by omega)
        rw [e, Option.bind_some]
        refine letb_K (P := BPost n) fun v15 e15 => ?_
        subst e15
        obtain ⟨σ1, es, hs⟩ := X_step_ok hT h hb (show r < 6 by omega) ht
        rw [es, bind2_ok]
        refine letb_K (P := BPost n) fun σ2 e2 => ?_
        subst e2
        have ei : (6 : Int32) * nI b + nI r = nI (6 * b + r) := by rw [show (6 : Int32) = nI 6 from rfl, pk_mul, nI_add]
        rw [ei, ag_nI (by omega) (by decide), Option.bind_some, mrg_31, hD b r (by omega) (by omega), if_pos rfl, as_nI (by omega) (by decide), Option.bind_some]
        refine letb_K (P := BPost n) fun v21 e21 => ?_
        subst e21
        rw [nI_1]
        refine kk _ ⟨upT T r b (some t), hT.upT (by omega) hb (fun u hu => by cases hu; exact ht), XI_31 (XI_mrg (σ := x) hs) rfl (fun a ha => if_neg ha), fun s l hs' hl' => ?_⟩
        rw [sa_self]
        by_cases c : 6 * s + l = 6 * b + r
        · rw [if_pos c]
          obtain ⟨rfl, rfl⟩ : s = b ∧ l = r := by omega
          rw [upT_self]; rfl
        · rw [if_neg c, mrg_31, hD s l hs' hl', upT_ne (fun q => c (by rw [q.1, q.2]))]
      refine letb_K (P := BPost n) fun K190 e190 => ?_
      have h190 : BPost n (K190 ()) := by
        rw [e190]
        obtain ⟨r, hr, e⟩ := below_ok (w >>> (6 &&& 31)) (N := n) (by omega) (by omega)
        rw [e, Option.bind_some]
        exact h200 r hr
      by_cases c : nI n - 1 ≤ nI k
      · rw [if_pos c]; exact h190
      · rw [if_neg c]
        obtain ⟨r, hr, e⟩ := below_ok w (N := 3) (by decide) (by decide)
        have e : fn_L_below w 3 = some (nI r) := e
        rw [e, Option.bind_some]
        by_cases c2 : nI r ≤ 0
        · rw [if_pos c2]; exact h190
        · rw [if_neg c2, nI_1]
          refine h200 (k + 1) ?_
          rw [show (1 : Int32) = nI 1 from rfl, pk_sub hn] at c
          rcases Nat.lt_or_ge k (n - 1) with g | g
          · omega
          · exact absurd (nI_le g (by omega)) c
    refine letb_K (P := BPost n) fun K154 e154 => ?_
    have h154 : BPost n (K154 ()) := by
      rw [e154]
      obtain ⟨r, hr, e⟩ := below_ok (w >>> (2 &&& 31)) (N := n) (by omega) (by omega)
      rw [e, Option.bind_some]
      exact h163 r hr
    by_cases c : nI n - 1 ≤ nI k
    · rw [if_pos c]; exact h154
    · rw [if_neg c]
      obtain ⟨r, hr, e⟩ := below_ok w (N := 3) (by decide) (by decide)
      have e : fn_L_below w 3 = some (nI r) := e
      rw [e, Option.bind_some]
      by_cases c2 : nI r ≤ 0
      · rw [if_pos c2]; exact h154
      · rw [if_neg c2]
        refine h163 k ?_
        rw [show (1 : Int32) = nI 1 from rfl, pk_sub hn] at c
        rcases Nat.lt_or_ge k (n - 1) with g | g
        · omega
        · exact absurd (nI_le g (by omega)) c
  · intro rec x hI
    obtain ⟨T, hT, h, hD⟩ := hI
    rw [bd_L_build_101, if_pos (nI_le (Nat.le_refl N) (by omega)), X_stateCount h, Option.bind_some, if_neg (fun q => q rfl)]
    exact ⟨x, T, rfl, hT, h⟩
theorem Sys_T0 {n : Nat} (h1 : 1 ≤ n) (h2 : n ≤ 12) : Sys n T0 := ⟨h1, h2, fun l s t h => by cases h⟩
set_option maxHeartbeats 1000000 in
theorem B_55 {L : Nat} {xs : Nat → Int32} {n lb : Nat} (hn : 1 ≤ n) (hn6 : n ≤ 6) (hlb : 1 ≤ lb) (hlb6 : lb ≤ 6) (σ : SX) (h : XI σ 1 T0 none) (hD : ToD σ T0) : BPost n (loopF FU (bd_L_build_55 L xs 0 (nI n) (nI lb)) (fun _ _ => none) (nI 1) σ) := by
  refine loop_rel (body := bd_L_build_55 L xs 0 (nI n) (nI lb)) (bot := fun _ _ => none) (fun k (x : SX) g => g (nI k) x) n (fun k x => 1 ≤ k ∧ XI x k T0 none ∧ ToD x T0) (BPost n) ?_ ?_ FU 1 σ hn (by unfold FU; omega) ⟨Nat.le_refl 1, h, hD⟩
  · intro rec k x hk hI kk
    obtain ⟨h1, h, hD⟩ := hI
    obtain ⟨σ1, e1, i1⟩ := X_addState_ok (Sys_T0 h1 (by omega)) h (by omega)
    rw [bd_L_build_55, if_neg (nI_ge hk (by omega)), e1, bind2_ok]
    refine letb_K (P := BPost n) fun σ2 e2 => ?_
    subst e2
    rw [if_pos rfl]
    refine letb_K (P := BPost n) fun v e => ?_
    subst e
    rw [nI_1]
    refine kk _ ⟨by omega, XI_mrg i1, fun s l hs hl => by rw [mrg_31]; exact hD s l hs hl⟩
  · intro rec x hI
    obtain ⟨h1, h, hD⟩ := hI
    obtain ⟨r, hr, e⟩ := below_ok (celv L xs 0 >>> (8 &&& 31)) (N := 2 * n + 4) (by omega) (by omega)
    have e2 : (2 : Int32) * nI n + 4 = nI (2 * n + 4) := by rw [show (2 : Int32) = nI 2 from rfl, pk_mul, show (4 : Int32) = nI 4 from rfl, nI_add]
    rw [bd_L_build_55, if_pos (nI_le (Nat.le_refl n) (by omega)), nn_0, Option.bind_some, e2, e, Option.bind_some]
    refine letb_K (P := BPost n) fun v8 e8 => ?_
    subst e8
    refine letb_K (P := BPost n) fun v9 e9 => ?_
    subst e9
    exact B_101 hn hn6 hlb hlb6 (by omega) x T0 (Sys_T0 hn (by omega)) h hD
theorem B_32 {L : Nat} {xs : Nat → Int32} {n lb : Nat} (hn : 1 ≤ n) (hn6 : n ≤ 6) (hlb : 1 ≤ lb) (hlb6 : lb ≤ 6) (σ : SX) (h : XI σ 1 T0 none) : BPost n (loopF FU (bd_L_build_32 L xs 0 (nI n) (nI lb)) (fun _ _ => none) (nI 0) σ) := by
  refine loop_rel (body := bd_L_build_32 L xs 0 (nI n) (nI lb)) (bot := fun _ _ => none) (fun k (x : SX) g => g (nI k) x) 72 (fun k x => XI x 1 T0 none ∧ ∀ j, j < k → x.2 31 j = -1) (BPost n) ?_ ?_ FU 0 σ (Nat.zero_le _) (by decide) ⟨h, fun j hj => absurd hj (Nat.not_lt_zero j)⟩
  · intro rec k x hk hI kk
    rw [bd_L_build_32, if_neg (show ¬ (72 : Int32) ≤ nI k from nI_ge hk (by decide)), as_nI hk (by decide), Option.bind_some]
    refine letb_K (P := BPost n) fun v e => ?_
    subst e
    rw [nI_1]
    refine kk _ ⟨XI_31 hI.1 rfl (fun a ha => if_neg ha), fun j hj => ?_⟩
    rw [sa_self]
    by_cases c : j = k
    · rw [if_pos c]
    · rw [if_neg c]; exact hI.2 j (by omega)
  · intro rec x hI
    rw [bd_L_build_32, if_pos (show (72 : Int32) ≤ nI 72 from nI_le (Nat.le_refl 72) (by decide))]
    refine letb_K (P := BPost n) fun v e => ?_
    subst e
    exact B_55 hn hn6 hlb hlb6 x hI.1 (fun s l hs hl => hI.2 _ (by omega))
theorem build_ok {L : Nat} {xs : Nat → Int32} {σ : SX} (h : XI σ 1 T0 none) : ∃ n, 1 ≤ n ∧ n ≤ 6 ∧ BPost n (fn_L_build σ L xs 0 6) := by
  obtain ⟨r, hr, e⟩ := below_ok (celv L xs 0) (N := 6) (by decide) (by decide)
  have e : fn_L_below (celv L xs 0) 6 = some (nI r) := e
  obtain ⟨r2, hr2, e2⟩ := below_ok (celv L xs 0 >>> (4 &&& 31)) (N := 6) (by decide) (by decide)
  have e2 : fn_L_below (celv L xs 0 >>> (4 &&& 31)) 6 = some (nI r2) := e2
  refine ⟨1 + r, by omega, by omega, ?_⟩
  unfold fn_L_build
  rw [nn_0, Option.bind_some, e, Option.bind_some]
  refine letb_K (P := BPost (1 + r)) fun v e1 => ?_
  rw [show (1 : Int32) = nI 1 from rfl, nI_add] at e1
  subst e1
  rw [Option.bind_some, e2, Option.bind_some]
  refine letb_K (P := BPost (1 + r)) fun v e1 => ?_
  rw [show (1 : Int32) = nI 1 from rfl, nI_add] at e1
  subst e1
  refine letb_K (P := BPost (1 + r)) fun v e1 => ?_
  subst e1
  exact B_32 (by omega) (by omega) (by omega) (by omega) σ h
