/-! 87: the law's loop -/
theorem i31 (v : Int32) : ∃ k, k < 32 ∧ v &&& 31 = nI k := by
  refine ⟨(v &&& 31).toBitVec.toNat, ?_, ?_⟩
  · rw [Int32.toBitVec_and, BitVec.toNat_and]
    exact Nat.lt_of_le_of_lt Nat.and_le_right (by decide)
  · apply Int32.toBitVec_inj.mp
    show _ = BitVec.ofNat 32 _
    rw [BitVec.ofNat_toNat, BitVec.setWidth_eq]
theorem law_len : ∀ L, L < 2049 → (nI L - 4).toInt = (L : Int) - 4 := by decide +kernel
theorem law_in {L I : Nat} (hL : L ≤ 2048) (hI : I < 2 ^ 31) (h : ¬ nI L - 4 < nI I) : I + 4 ≤ L := by
  rw [Int32.lt_iff_toInt_lt, law_len L (by omega), nI_toInt hI] at h
  omega
set_option maxRecDepth 100000 in
set_option maxHeartbeats 4000000 in
theorem law_loop {p : Program} {l : Launch} {e : Env} {s : State} {m : MethodId} {args : Array Value} {below : List Frame} {meth : Method} {c : Code} {Q : State → Prop} {D : va_G} {κ κm : Nat → Nat} {cI cII cJ : ClassId} {o b L : Nat} {xs : Nat → Int32} (C : LawC p l s m args c D cI cII cJ κ κm o b L xs) (hLm : L ≤ 2048)
    (kend : ∀ (H : Heap) (locs : List Loc) (cells slots : Nat) (ls : Array Slot), va_S (AL s) s.heap H locs → cells ≤ 601024 → slots ≤ 7293034 → W p l e room_1 s m args below meth c H locs cells slots Q (F0 m 1636 ls [])) :
    ∀ (N j : Nat) (σ τ : SX) (z : Int64) (n : Nat) (T : TT) (mk : Option Nat) (H : Heap) (locs : List Loc) (ls : Array Slot) (cells slots : Nat), L ≤ 4 * j + 4 * N → 4 * j + 4 * N ≤ 4000 → cells + 4 * N + 4 ≤ 601024 → slots + 32 * N + 32 ≤ 7293034 →
      Sys n T → XI σ n T mk → MI τ n T mk → LSt D cI cII cJ κ κm o σ τ z H → va_S (AL s) s.heap H locs → lv_has ls 9 [(4, .int (nI (4 * j))), (3, .ref o), (2, .ref (κm 0)), (1, .ref (κ 0)), (0, .ref b)] →
      W p l e room_1 s m args below meth c H locs cells slots Q (F0 m 23 ls []) := by
  obtain ⟨S, hst, hK, hX, hZ, hJ, hN, hκ, hm, hA, hAm, hAo, hd, ho, hmo, hsc, hbl⟩ := id C
  have hbA : ¬ AL s b := Nat.not_le.mpr hbl
  obtain ⟨hx, hb, hml, hown, hts⟩ := id S
  intro N
  induction N with
  | zero =>
    intro j σ τ z n T mk H locs ls cells slots hLj hj hc hs hT h g hL hS hl
    refine lv_iload hx hb dL_law_23 (lv_at hl 0 rfl) ?_
    refine lv_aload_n hx hb dL_law_25 rfl (lv_at hl 4 rfl) ?_
    refine va_slen hx hb hsc hbl hbA hS dL_law_26 ?_
    refine lv_iconst (v := 4) hx hb dL_law_27 (by decide) ?_
    refine lv_isub hx hb dL_law_28 ?_
    refine lv_icmp_gt (tgt := 1636) hx hb dL_law_29 (by decide) (fun hg => ?_) (fun hg => ?_)
    · exact kend H locs cells slots ls hS (by omega) (by omega)
    · have := law_in hLm (by omega) hg
      omega
  | succ N ih =>
    intro j σ τ z n T mk H locs ls cells slots hLj hj hc hs hT h g hL hS hl
    refine lv_iload hx hb dL_law_23 (lv_at hl 0 rfl) ?_
    refine lv_aload_n hx hb dL_law_25 rfl (lv_at hl 4 rfl) ?_
    refine va_slen hx hb hsc hbl hbA hS dL_law_26 ?_
    refine lv_iconst (v := 4) hx hb dL_law_27 (by decide) ?_
    refine lv_isub hx hb dL_law_28 ?_
    refine lv_icmp_gt (tgt := 1636) hx hb dL_law_29 (by decide) (fun hg => ?_) (fun hg => ?_)
    · exact kend H locs cells slots ls hS (by omega) (by omega)
    · have hI := law_in hLm (by omega) hg
      have kk : ∀ (σ τ : SX) (z : Int64) (n : Nat) (T : TT) (mk : Option Nat) (H : Heap) (locs : List Loc) (ls : Array Slot), Sys n T → XI σ n T mk → MI τ n T mk → LSt D cI cII cJ κ κm o σ τ z H → va_S (AL s) s.heap H locs → lv_has ls 9 [(4, .int (nI (4 * j))), (3, .ref o), (2, .ref (κm 0)), (1, .ref (κ 0)), (0, .ref b)] → W p l e room_1 s m args below meth c H locs (cells + 4) (slots + 32) Q (F0 m 1630 ls []) := by
        intro σ τ z n T mk H locs ls hT h g hL hS hl
        refine lv_iinc (v := nI (4 * (j + 1))) (lv' := [(4, .int (nI (4 * (j + 1)))), (3, .ref o), (2, .ref (κm 0)), (1, .ref (κ 0)), (0, .ref b)]) hx hb dL_law_1630 hl (k := 0) rfl (by rw [show Int32.ofInt 4 = nI 4 from by decide, nI_add]; rfl) (by decide) rfl (fun ls hl => ?_)
        refine lv_goto (tgt := 23) hx hb dL_law_1633 (by decide) ?_
        exact ih (j + 1) σ τ z n T mk H locs ls (cells + 4) (slots + 32) (by omega) (by omega) (by omega) (by omega) hT h g hL hS hl
      have hc4 : cells + 4 ≤ 601024 := by omega
      have hs32 : slots + 32 ≤ 7293034 := by omega
      refine lv_aload_n hx hb dL_law_32 rfl (lv_at hl 4 rfl) ?_
      refine lv_iload hx hb dL_law_33 (lv_at hl 0 rfl) ?_
      refine va_sld hx hb hsc hbl hbA hS (sc_in0 hI hLm) dL_law_35 ?_
      refine lv_bipush (v := 31) hx hb dL_law_36 (by decide) ?_
      refine lv_iand hx hb dL_law_38 ?_
      obtain ⟨k, hk, hv⟩ := i31 (xs (nI (4 * j)).toNatClampNeg)
      rw [hv]
      by_cases h0 : k = 0
      · subst h0
        refine lv_tableIn (off := 137) (tgt := 176) hx hb dL_law_39 (by decide) (by decide) (by decide) (by decide) ?_
        exact case_0 C hI hLm hc4 hs32 hT h g hL hS hl kk
      by_cases h1 : k = 1
      · subst h1
        refine lv_tableIn (off := 181) (tgt := 220) hx hb dL_law_39 (by decide) (by decide) (by decide) (by decide) ?_
        exact case_1 C hI hLm hc4 hs32 hT h g hL hS hl kk
      by_cases h2 : k = 2
      · subst h2
        refine lv_tableIn (off := 261) (tgt := 300) hx hb dL_law_39 (by decide) (by decide) (by decide) (by decide) ?_
        exact case_2 C hI hLm hc4 hs32 hT h g hL hS hl kk
      by_cases h3 : k = 3
      · subst h3
        refine lv_tableIn (off := 336) (tgt := 375) hx hb dL_law_39 (by decide) (by decide) (by decide) (by decide) ?_
        exact case_3 C hI hLm hc4 hs32 hT h g hL hS hl kk
      by_cases h4 : k = 4
      · subst h4
        refine lv_tableIn (off := 404) (tgt := 443) hx hb dL_law_39 (by decide) (by decide) (by decide) (by decide) ?_
        exact case_4 C hI hLm hc4 hs32 hT h g hL hS hl kk
      by_cases h5 : k = 5
      · subst h5
        refine lv_tableIn (off := 417) (tgt := 456) hx hb dL_law_39 (by decide) (by decide) (by decide) (by decide) ?_
        exact case_5 C hI hLm hc4 hs32 hT h g hL hS hl kk
      by_cases h6 : k = 6
      · subst h6
        refine lv_tableIn (off := 485) (tgt := 524) hx hb dL_law_39 (by decide) (by decide) (by decide) (by decide) ?_
        exact case_6 C hI hLm hc4 hs32 hT h g hL hS hl kk
      by_cases h7 : k = 7
      · subst h7
        refine lv_tableIn (off := 541) (tgt := 580) hx hb dL_law_39 (by decide) (by decide) (by decide) (by decide) ?_
        exact case_7 C hI hLm hc4 hs32 hT h g hL hS hl kk
      by_cases h8 : k = 8
      · subst h8
        refine lv_tableIn (off := 554) (tgt := 593) hx hb dL_law_39 (by decide) (by decide) (by decide) (by decide) ?_
        exact case_8 C hI hLm hc4 hs32 hT h g hL hS hl kk
      by_cases h9 : k = 9
      · subst h9
        refine lv_tableIn (off := 610) (tgt := 649) hx hb dL_law_39 (by decide) (by decide) (by decide) (by decide) ?_
        exact case_9 C hI hLm hc4 hs32 hT h g hL hS hl kk
      by_cases h10 : k = 10
      · subst h10
        refine lv_tableIn (off := 678) (tgt := 717) hx hb dL_law_39 (by decide) (by decide) (by decide) (by decide) ?_
        exact case_10 C hI hLm hc4 hs32 hT h g hL hS hl kk
      by_cases h11 : k = 11
      · subst h11
        refine lv_tableIn (off := 741) (tgt := 780) hx hb dL_law_39 (by decide) (by decide) (by decide) (by decide) ?_
        exact case_11 C hI hLm hc4 hs32 hT h g hL hS hl kk
      by_cases h12 : k = 12
      · subst h12
        refine lv_tableIn (off := 754) (tgt := 793) hx hb dL_law_39 (by decide) (by decide) (by decide) (by decide) ?_
        exact case_12 C hI hLm hc4 hs32 hT h g hL hS hl kk
      by_cases h13 : k = 13
      · subst h13
        refine lv_tableIn (off := 810) (tgt := 849) hx hb dL_law_39 (by decide) (by decide) (by decide) (by decide) ?_
        exact case_13 C hI hLm hc4 hs32 hT h g hL hS hl kk
      by_cases h14 : k = 14
      · subst h14
        refine lv_tableIn (off := 873) (tgt := 912) hx hb dL_law_39 (by decide) (by decide) (by decide) (by decide) ?_
        exact case_14 C hI hLm hc4 hs32 hT h g hL hS hl kk
      by_cases h15 : k = 15
      · subst h15
        refine lv_tableIn (off := 929) (tgt := 968) hx hb dL_law_39 (by decide) (by decide) (by decide) (by decide) ?_
        exact case_15 C hI hLm hc4 hs32 hT h g hL hS hl kk
      by_cases h16 : k = 16
      · subst h16
        refine lv_tableIn (off := 997) (tgt := 1036) hx hb dL_law_39 (by decide) (by decide) (by decide) (by decide) ?_
        exact case_16 C hI hLm hc4 hs32 hT h g hL hS hl kk
      by_cases h17 : k = 17
      · subst h17
        refine lv_tableIn (off := 1065) (tgt := 1104) hx hb dL_law_39 (by decide) (by decide) (by decide) (by decide) ?_
        exact case_17 C hI hLm hc4 hs32 hT h g hL hS hl kk
      by_cases h18 : k = 18
      · subst h18
        refine lv_tableIn (off := 1078) (tgt := 1117) hx hb dL_law_39 (by decide) (by decide) (by decide) (by decide) ?_
        exact case_18 C hI hLm hc4 hs32 hT h g hL hS hl kk
      by_cases h19 : k = 19
      · subst h19
        refine lv_tableIn (off := 1091) (tgt := 1130) hx hb dL_law_39 (by decide) (by decide) (by decide) (by decide) ?_
        exact case_19 C hI hLm hc4 hs32 hT h g hL hS hl kk
      by_cases h20 : k = 20
      · subst h20
        refine lv_tableIn (off := 1132) (tgt := 1171) hx hb dL_law_39 (by decide) (by decide) (by decide) (by decide) ?_
        exact case_20 C hI hLm hc4 hs32 hT h g hL hS hl kk
      by_cases h21 : k = 21
      · subst h21
        refine lv_tableIn (off := 1145) (tgt := 1184) hx hb dL_law_39 (by decide) (by decide) (by decide) (by decide) ?_
        exact case_21 C hI hLm hc4 hs32 hT h g hL hS hl kk
      by_cases h22 : k = 22
      · subst h22
        refine lv_tableIn (off := 1158) (tgt := 1197) hx hb dL_law_39 (by decide) (by decide) (by decide) (by decide) ?_
        exact case_22 C hI hLm hc4 hs32 hT h g hL hS hl kk
      by_cases h23 : k = 23
      · subst h23
        refine lv_tableIn (off := 1214) (tgt := 1253) hx hb dL_law_39 (by decide) (by decide) (by decide) (by decide) ?_
        exact case_23 C hI hLm hc4 hs32 hT h g hL hS hl kk
      by_cases h24 : k = 24
      · subst h24
        refine lv_tableIn (off := 1270) (tgt := 1309) hx hb dL_law_39 (by decide) (by decide) (by decide) (by decide) ?_
        exact case_24 C hI hLm hc4 hs32 hT h g hL hS hl kk
      by_cases h25 : k = 25
      · subst h25
        refine lv_tableIn (off := 1326) (tgt := 1365) hx hb dL_law_39 (by decide) (by decide) (by decide) (by decide) ?_
        exact case_25 C hI hLm hc4 hs32 hT h g hL hS hl kk
      by_cases h26 : k = 26
      · subst h26
        refine lv_tableIn (off := 1370) (tgt := 1409) hx hb dL_law_39 (by decide) (by decide) (by decide) (by decide) ?_
        exact case_26 C hI hLm hc4 hs32 hT h g hL hS hl kk
      by_cases h27 : k = 27
      · subst h27
        refine lv_tableIn (off := 1426) (tgt := 1465) hx hb dL_law_39 (by decide) (by decide) (by decide) (by decide) ?_
        exact case_27 C hI hLm hc4 hs32 hT h g hL hS hl kk
      by_cases h28 : k = 28
      · subst h28
        refine lv_tableIn (off := 1470) (tgt := 1509) hx hb dL_law_39 (by decide) (by decide) (by decide) (by decide) ?_
        exact case_28 C hI hLm hc4 hs32 hT h g hL hS hl kk
      by_cases h29 : k = 29
      · subst h29
        refine lv_tableIn (off := 1526) (tgt := 1565) hx hb dL_law_39 (by decide) (by decide) (by decide) (by decide) ?_
        exact case_29 C hI hLm hc4 hs32 hT h g hL hS hl kk
      by_cases h30 : k = 30
      · subst h30
        refine lv_tableIn (off := 1577) (tgt := 1616) hx hb dL_law_39 (by decide) (by decide) (by decide) (by decide) ?_
        exact case_30 C hI hLm hc4 hs32 hT h g hL hS hl kk
      have h31 : k = 31 := by omega
      subst h31
      refine lv_tableOut (tgt := 1630) hx hb dL_law_39 (Or.inr (by decide)) (by decide) ?_
      refine W.widen (k := cells + 4) (n := slots + 32) (by omega) (by omega) ?_
      exact kk σ τ z n T mk H locs ls hT h g hL hS hl
