/-! 53: the law's answer -/
def LPost (o : Option (Int32 × SX)) : Prop := ∃ σ' : SX, o = some (1, σ')
theorem min_ok {a : Nat} (h : a < 2 ^ 31) : (if (30 : Int32) < nI a then 30 else nI a) = nI (min 30 a) := by
  by_cases c : 30 < a
  · rw [if_pos (show (30 : Int32) < nI a from nIlt c h), Nat.min_eq_left (by omega)]; rfl
  · rw [if_neg (show ¬ (30 : Int32) < nI a from I_nlt (show nI a ≤ nI 30 from nI_le (by omega) (by decide))), Nat.min_eq_right (by omega)]
theorem lsN_le (n : Nat) (T : TT) : ∀ k, lsN n T k ≤ k
  | 0 => Nat.le_refl 0
  | k + 1 => by
    have := lsN_le n T k
    rw [lsN_succ]
    split <;> omega
theorem with_bit {n : Nat} {T : TT} {s p : Nat} (hp : p < (PL n T).length) : (withS n T s).testBit p = (pg n T p).testBit s := by
  unfold withS
  rw [mask_bit, decide_eq_true hp, Bool.true_and]
theorem G_441 {n : Nat} {T : TT} (hT : Sys n T) {at_ : Nat} (ha : at_ < n) {K : Int32 → SX → Option (Int32 × SX)} (hK : ∀ x, XI x n T (some (withS n T at_)) → LPost (K (nI at_) x)) (σ : SX) (h : XI σ n T (some (withS n T at_))) :
    LPost (loopF FU (bd_L_law_441 (nI (lsN n T (RN n T))) K (nI (withS n T at_)) (nI at_)) (fun _ _ => none) (nI 0) σ) := by
  have hn := hT.2.1
  have hl : lsN n T (RN n T) < 2 ^ 31 := by
    have h1 := lsN_le n T (RN n T)
    have h2 := RgL_len hT
    have : RN n T ≤ 4094 := h2
    omega
  have hPL : (PL n T).length ≤ 30 := PL_len
  refine loop_rel (body := bd_L_law_441 (nI (lsN n T (RN n T))) K (nI (withS n T at_)) (nI at_)) (bot := fun _ _ => none) (fun k (x : SX) g => g (nI k) x) (PL n T).length (fun _ x => XI x n T (some (withS n T at_))) LPost ?_ ?_ FU 0 σ (Nat.zero_le _) (by unfold FU; omega) h
  · intro rec p x hp h kk
    obtain ⟨σ1, e1, i1⟩ := X_placeRegion_ok hT h hp
    rw [bd_L_law_441, min_ok hl, ← PL_min, if_neg (nI_ge hp (by omega)), e1, bind2_ok]
    refine letb_K (P := LPost) fun σ2 e2 => ?_
    subst e2
    have hw := withS_lt n T at_
    have hg := PL_lt hT hp
    rw [i_bit (by omega) (by omega), i_bit (by omega) (by omega), with_bit hp, if_pos rfl]
    refine letb_K (P := LPost) fun v e => ?_
    subst e
    rw [nI_1]
    exact kk _ (XI_mrg i1)
  · intro rec x h
    rw [bd_L_law_441, min_ok hl, ← PL_min, if_pos (nI_le (Nat.le_refl _) (by omega))]
    exact hK x h
theorem G_369 {L : Nat} {xs : Nat → Int32} {n : Nat} {T : TT} (hT : Sys n T) (σ : SX) (h : XI σ n T (some (withS n T 0))) :
    LPost (loopF FU (bd_L_law_369 L xs (nI (lsN n T (RN n T)))) (fun _ _ _ => none) (nI 0) (nI 0) σ) := by
  have hn := hT.2.1
  have h0 := hT.1
  refine loop_rel (body := bd_L_law_369 L xs (nI (lsN n T (RN n T)))) (bot := fun _ _ _ => none) (fun k (x : Nat × SX) g => g (nI x.1) (nI k) x.2) 12 (fun _ x => x.1 < n ∧ XI x.2 n T (some (withS n T x.1))) LPost ?_ ?_ FU 0 (0, σ) (Nat.zero_le _) (by decide) ⟨h0, h⟩
  · intro rec k x hk hI kk
    obtain ⟨at_, x⟩ := x
    obtain ⟨ha, h⟩ := hI
    have ha : at_ < n := ha
    have h : XI x n T (some (withS n T at_)) := h
    show LPost (bd_L_law_369 L xs (nI (lsN n T (RN n T))) rec (nI at_) (nI k) x)
    have e1 : (8 : Int32) + (nI k - nI k / 8 * 8) = nI (8 + k % 8) := by
      rw [show (8 : Int32) = nI 8 from rfl, rem_ok (by omega) (by decide) (by decide), nI_add]
    obtain ⟨l, hl, el⟩ := below_ok (celv L xs (nI (8 + k % 8)) >>> (nI k / 8 &&& 31)) (N := 6) (by decide) (by decide)
    have el : fn_L_below (celv L xs (nI (8 + k % 8)) >>> (nI k / 8 &&& 31)) 6 = some (nI l) := el
    rw [bd_L_law_369, if_neg (show ¬ (12 : Int32) ≤ nI k from nI_ge hk (by decide)), e1, nn_ok (by omega), Option.bind_some, el, Option.bind_some]
    refine letb_K (P := LPost) fun v26 e26 => ?_
    subst e26
    obtain ⟨σ1, e2, i1⟩ := X_target_ok hT h ha hl
    rw [e2, bind2_ok]
    refine letb_K (P := LPost) fun σ2 es2 => ?_
    subst es2
    have i1 := XI_mrg (σ := x) i1
    refine letb_K (P := LPost) fun v30 e30 => ?_
    refine letb_K (P := LPost) fun K482 eK => ?_
    have hK : ∀ a y, a < n → XI y n T (some (withS n T a)) → LPost (K482 (nI a) y) := by
      intro a y hay hy
      rw [eK]
      refine letb_K (P := LPost) fun v31 e31 => ?_
      subst e31
      rw [nI_1]
      exact kk (a, y) ⟨hay, hy⟩
    cases eT : T l at_ with
    | none =>
      rw [eT] at e30
      have e30 : v30 = -1 := e30
      subst e30
      rw [if_neg (by decide)]
      exact hK at_ _ ha i1
    | some t =>
      rw [eT] at e30
      have e30 : v30 = nI t := e30
      subst e30
      have ht : t < n := (hT.2.2 l at_ t eT).2.2
      rw [if_pos (nI_pos' (by omega))]
      obtain ⟨σ3, e3, i3⟩ := X_fire_ok i1 hl
      have hc := can_yes hT eT
      have hb := beh_step hT eT
      rw [show behO n T l (withS n T at_) = some (withS n T t) from by unfold behO; rw [if_pos hc, hb]] at e3
      rw [show fireM n T l (withS n T at_) = withS n T t from by unfold fireM; rw [if_pos hc, hb]] at i3
      rw [e3, bind2_ok]
      refine letb_K (P := LPost) fun σ4 e4 => ?_
      subst e4
      refine letb_K (P := LPost) fun v35 e35 => ?_
      have e35 : v35 = nI (withS n T t) := e35
      subst e35
      have hw := withS_lt n T t
      rw [if_pos (nI_pos' (by omega))]
      refine letb_K (P := LPost) fun v36 e36 => ?_
      subst e36
      refine letb_K (P := LPost) fun v37 e37 => ?_
      subst e37
      exact G_441 hT ht (fun y hy => hK t y ht hy) _ (XI_mrg i3)
  · intro rec x hI
    rw [bd_L_law_369, if_pos (show (12 : Int32) ≤ nI 12 from nI_le (Nat.le_refl 12) (by decide))]
    exact ⟨x.2, rfl⟩
theorem G_210 {n : Nat} {T : TT} (hT : Sys n T) {k : Nat} (hk : k < RN n T) {v70 : Int32} {rec48 : Int32 → Int32 → SX → Option (Int32 × SX)} (hR : ∀ x, XI x n T none → LPost (rec48 v70 (nI (k + 1)) x)) (σ : SX) (h : XI σ n T none) :
    LPost (loopF FU (bd_L_law_210 (nI (RN n T)) rec48 (nI k) v70) (fun _ _ _ => none) (nI (rg n T k)) (nI 0) σ) := by
  have hlen : RN n T ≤ 4094 := RgL_len hT
  have hg : ∀ j, j < RN n T → rg n T j < 2 ^ 12 := fun j hj => (isReg_lt hT (rg_reg hj)).2.2
  have hlf : ∀ j, lft n T (rg n T k) j < 2 ^ 12 := fun j => by
    have s := lft_sub (n := n) (T := T) (a := rg n T k) (k := 0) j
    rw [Nat.zero_add] at s
    refine lt_of_bits fun q hq => Bool.eq_false_iff.mpr fun hb => ?_
    have := sub_iff.mp s q hb
    rw [show lft n T (rg n T k) 0 = rg n T k from rfl, bit_hi (hg k hk) hq] at this
    cases this
  refine loop_rel (body := bd_L_law_210 (nI (RN n T)) rec48 (nI k) v70) (bot := fun _ _ _ => none) (fun j (x : SX) g => g (nI (lft n T (rg n T k) j)) (nI j) x) (RN n T) (fun _ x => XI x n T none) LPost ?_ ?_ FU 0 σ (Nat.zero_le _) (by unfold FU; omega) h
  · intro rec j x hj h kk
    obtain ⟨σ1, e1, i1⟩ := X_isLeast_ok hT h hj
    rw [bd_L_law_210, if_neg (nI_ge hj (by omega)), e1, bind2_ok]
    refine letb_K (P := LPost) fun σ2 e2 => ?_
    subst e2
    have i1 := XI_mrg (σ := x) i1
    refine letb_K (P := LPost) fun K eK => ?_
    have hK : ∀ y, XI y n T none → LPost (K (nI (lft n T (rg n T k) (j + 1))) y) := by
      intro y hy
      rw [eK]
      refine letb_K (P := LPost) fun v e => ?_
      subst e
      rw [nI_1]
      exact kk y hy
    cases cl : leastS n T j with
    | false =>
      rw [show lft n T (rg n T k) (j + 1) = lft n T (rg n T k) j from by rw [lft, cl]; rfl] at hK
      rw [if_pos b2iF]
      exact hK _ i1
    | true =>
      rw [if_neg b2iT]
      obtain ⟨σ3, e3, i3⟩ := X_region_ok hT i1 hj
      rw [e3, bind2_ok]
      refine letb_K (P := LPost) fun σ4 e4 => ?_
      subst e4
      have i3 := XI_mrg (σ := mrg x σ1) i3
      have g1 := hg j hj
      have g2 := hlf j
      rw [i_ndf (by omega) (by omega)]
      have g3 : ndf (rg n T j) (lft n T (rg n T k) j) < 2 ^ 12 := ndf_lt g1
      by_cases c : ndf (rg n T j) (lft n T (rg n T k) j) = 0
      · rw [if_neg (fun q => q ((nI_z (by omega)).mpr c))]
        obtain ⟨σ5, e5, i5⟩ := X_region_ok hT i3 hj
        rw [e5, bind2_ok]
        refine letb_K (P := LPost) fun σ6 e6 => ?_
        subst e6
        refine letb_K (P := LPost) fun v84 e84 => ?_
        rw [i_ndf (by omega) (by omega)] at e84
        subst e84
        rw [show lft n T (rg n T k) (j + 1) = ndf (lft n T (rg n T k) j) (rg n T j) from by
          rw [lft, cl, if_pos (by rw [Bool.true_and]; exact beq_iff_eq.mpr c)]] at hK
        exact hK _ (XI_mrg i5)
      · rw [if_pos (fun q => c ((nI_z (by omega)).mp q))]
        rw [show lft n T (rg n T k) (j + 1) = lft n T (rg n T k) j from by
          rw [lft, cl, if_neg (by rw [Bool.true_and]; exact fun q => c (beq_iff_eq.mp q))]] at hK
        exact hK _ i3
  · intro rec x h
    rw [bd_L_law_210, if_pos (nI_le (Nat.le_refl _) (by omega)), lft_end hT (rg_reg hk), if_pos (show nI 0 = (0 : Int32) from rfl)]
    refine letb_K (P := LPost) fun v e => ?_
    subst e
    rw [nI_1]
    exact hR x h
theorem cmp_ok {n a : Nat} (hn : n ≤ 12) (ha : a < 2 ^ 12) : nI (2 ^ n - 1) &&& (nI a ^^^ (-1)) = nI (cmp n a) := by
  have h2 : 2 ^ n ≤ 2 ^ 12 := Nat.pow_le_pow_right (by decide) hn
  rw [i_ndf (by omega) (by omega)]; rfl
theorem G_120 {n : Nat} {T : TT} (hT : Sys n T) {k : Nat} (hk : k < RN n T) {rec48 : Int32 → Int32 → SX → Option (Int32 × SX)} (hR : ∀ x, XI x n T none → LPost (rec48 (nI (lsN n T (k + 1))) (nI (k + 1)) x)) (σ : SX) (h : XI σ n T none) :
    LPost (loopF FU (bd_L_law_120 (nI (2 ^ n - 1)) (nI (RN n T)) rec48 (nI (lsN n T k)) (nI k) (nI (rg n T k))) (fun _ _ => none) (nI 0) σ) := by
  have hn := hT.2.1
  have hr := rg_reg hk
  obtain ⟨g1, g2, g3⟩ := isReg_lt hT hr
  refine loop_rel (body := bd_L_law_120 (nI (2 ^ n - 1)) (nI (RN n T)) rec48 (nI (lsN n T k)) (nI k) (nI (rg n T k))) (bot := fun _ _ => none) (fun l (x : SX) g => g (nI l) x) 6 (fun _ x => XI x n T none) LPost ?_ ?_ FU 0 σ (Nat.zero_le _) (by decide) h
  · intro rec l x hl h kk
    obtain ⟨σ1, e1, i1⟩ := X_crossing_ok hT h g2 hl
    rw [bd_L_law_120, if_neg (show ¬ (6 : Int32) ≤ nI l from nI_ge hl (by decide)), e1, bind2_ok]
    refine letb_K (P := LPost) fun σ2 e2 => ?_
    subst e2
    have i1 := XI_mrg (σ := x) i1
    refine letb_K (P := LPost) fun v88 e88 => ?_
    obtain ⟨σ3, e3, i3⟩ := X_crossing_ok hT i1 (cmp_lt n (rg n T k)) hl
    rw [cmp_ok hn g3, e3, bind2_ok]
    refine letb_K (P := LPost) fun σ4 e4 => ?_
    subst e4
    have i3 := XI_mrg (σ := mrg x σ1) i3
    refine letb_K (P := LPost) fun v92 e92 => ?_
    have hw : wayS T l (rg n T k) ≠ 3 := (reg_iff.mp hr).2.2 l hl
    have hc := cmp_way (n := n) hT hw
    have hle := wayS_le T l (rg n T k)
    subst e88
    subst e92
    refine letb_K (P := LPost) fun K176 _ => ?_
    rw [if_neg (show ¬ nI (wayS T l (rg n T k)) = (3 : Int32) from fun q => hw ((nI_eq (b := 3) (by omega) (by decide)).mp q))]
    refine letb_K (P := LPost) fun K173 e173 => ?_
    have hK : LPost (K173 (nI (wayS T l (cmp n (rg n T k))))) := by
      rw [e173]
      show LPost (if _ then _ else _)
      rw [if_pos rfl]
      refine letb_K (P := LPost) fun v e => ?_
      subst e
      rw [nI_1]
      exact kk _ i3
    by_cases c : wayS T l (rg n T k) = 0
    · rw [if_neg (fun q => q ((nI_z (by omega)).mpr c))]
      rw [hc, if_pos c] at hK
      exact hK
    · rw [if_pos (fun q => c ((nI_z (by omega)).mp q))]
      rw [hc, if_neg c] at hK
      rw [show (3 : Int32) = nI 3 from rfl, pk_sub hle]
      exact hK
  · intro rec x h
    obtain ⟨σ1, e1, i1⟩ := X_isLeast_ok hT h hk
    rw [bd_L_law_120, if_pos (show (6 : Int32) ≤ nI 6 from nI_le (Nat.le_refl 6) (by decide)), e1, bind2_ok]
    refine letb_K (P := LPost) fun σ2 e2 => ?_
    subst e2
    refine letb_K (P := LPost) fun K200 e200 => ?_
    have hK : LPost (K200 (b2i (leastS n T k))) := by
      rw [e200]
      refine letb_K (P := LPost) fun v70 e70 => ?_
      have e70 : v70 = nI (lsN n T (k + 1)) := by
        rw [e70, lsN_succ]
        cases leastS n T k with
        | false => rw [show b2i false = nI 0 from rfl, nI_add]; rfl
        | true => rw [show b2i true = nI 1 from rfl, nI_add]; rfl
      subst e70
      refine letb_K (P := LPost) fun v71 e71 => ?_
      subst e71
      refine letb_K (P := LPost) fun v72 e72 => ?_
      subst e72
      exact G_210 hT hk hR _ (XI_mrg i1)
    cases cl : leastS n T k with
    | false => rw [cl] at hK; rw [if_pos b2iF]; exact hK
    | true => rw [cl] at hK; rw [if_neg b2iT]; exact hK
theorem G_48e {L : Nat} {xs : Nat → Int32} {n : Nat} {T : TT} (hT : Sys n T) (h6 : n ≤ 6) (v4 : Int32) (rec48 : Int32 → Int32 → SX → Option (Int32 × SX)) (x : SX) (h : XI x n T none) :
    LPost (bd_L_law_48 L xs v4 (nI (RN n T)) rec48 (nI (lsN n T (RN n T))) (nI (RN n T)) x) := by
  have hn := hT.2.1
  have hlen : RN n T ≤ 4094 := RgL_len hT
  have hlsN := lsN_le n T (RN n T)
  obtain ⟨σ1, e1, i1⟩ := X_makeNet hT h
  rw [bd_L_law_48, if_pos (nI_le (Nat.le_refl _) (by omega)), e1, bind2_ok]
  refine letb_K (P := LPost) fun σ2 e2 => ?_
  subst e2
  have i1 := XI_mrg (σ := x) i1
  rw [min_ok (by omega), ← PL_min, if_pos rfl]
  obtain ⟨σ3, e3, i3⟩ := X_lumps hT i1
  rw [e3, bind2_ok]
  refine letb_K (P := LPost) fun σ4 e4 => ?_
  subst e4
  have i3 := XI_mrg (σ := mrg x σ1) i3
  obtain ⟨σ5, e5, i5⟩ := X_leaks hT i3
  rw [e5, bind2_ok]
  refine letb_K (P := LPost) fun σ6 e6 => ?_
  have i5 : XI σ6 n T (some (withS n T 0)) := by rw [e6]; exact XI_mrg i5
  clear e6
  have hone := fid_one hT h6
  have l1 := lump_le (T := T) hn
  have l2 := leak_le n T
  have l3 := stopN_le n T 6
  have l4 : n * (n - 1) ≤ 12 * 11 := Nat.mul_le_mul hn (by omega)
  have hz : ¬ (nI (lumpS n T) + nI (leakS n T) = 0) ↔ ¬ (Op.cmpValue (FP.dcmp (fidS n T) d1) .l = 0) := by
    rw [nI_add, nI_z (by omega), hone]
  refine letb_K (P := LPost) fun K305 e305 => ?_
  have h305 : LPost (K305 (if ¬ (Op.cmpValue (FP.dcmp (fidS n T) d1) .l = 0) then 0 else 1)) := by
    rw [e305]
    obtain ⟨σ7, e7, i7⟩ := X_fidelity hT i5
    show LPost (bind2 _ _)
    rw [e7, bind2_ok]
    refine letb_K (P := LPost) fun σ8 e8 => ?_
    have i7 : XI σ8 n T (some (withS n T 0)) := by rw [e8]; exact XI_mrg i7
    clear e8
    refine letb_K (P := LPost) fun K319 e319 => ?_
    have h319 : LPost (K319 (if ¬ (Op.cmpValue (FP.dcmp (fidS n T) d1) .l = 0) then 0 else 1)) := by
      rw [e319]
      show LPost (if _ then _ else _)
      rw [if_pos rfl]
      refine letb_K (P := LPost) fun K363 e363 => ?_
      have h363 : ∀ y, XI y n T (some (withS n T 0)) → LPost (K363 y) := by
        intro y hy
        rw [e363]
        refine letb_K (P := LPost) fun v e => ?_
        subst e
        refine letb_K (P := LPost) fun v e => ?_
        subst e
        exact G_369 hT y hy
      by_cases c30 : (30 : Int32) < nI (lsN n T (RN n T))
      · rw [if_pos c30]; exact h363 _ i7
      · rw [if_neg c30]
        have h30 : lsN n T (RN n T) ≤ 30 := Nat.not_lt.mp fun q => c30 (nIlt q (by omega))
        obtain ⟨σ9, e9, i9⟩ := X_fidelity hT i7
        rw [e9, bind2_ok]
        refine letb_K (P := LPost) fun σ10 e10 => ?_
        have i9 : XI σ10 n T (some (withS n T 0)) := by rw [e10]; exact XI_mrg i9
        clear e10
        by_cases cf : Op.cmpValue (FP.dcmp (fidS n T) d1) .l = 0
        · rw [if_neg (fun q => q cf)]
          have h0 := hone.mp cf
          have hF := faith_pure hT (show lumpS n T = 0 by omega) (show leakS n T = 0 by omega) h30
          obtain ⟨σ11, e11, i11⟩ := X_isFaithful_ok hT i9
          rw [hF] at e11
          rw [e11, bind2_ok]
          refine letb_K (P := LPost) fun σ12 e12 => ?_
          have i11 : XI σ12 n T (some (withS n T 0)) := by rw [e12]; exact XI_mrg i11
          clear e12
          refine letb_K (P := LPost) fun K361 _ => ?_
          rw [if_neg b2iT]
          obtain ⟨σ13, e13, i13⟩ := X_markingCount_ok i11
          rw [e13, bind2_ok]
          refine letb_K (P := LPost) fun σ14 e14 => ?_
          have i13 : XI σ14 n T (some (withS n T 0)) := by rw [e14]; exact XI_mrg i13
          clear e14
          have hr := rch_n hT (n - 1)
          have h12 := (p12 hT).2
          rw [X_reached hT i13, Option.bind_some, bc_all _ (by omega), Option.bind_some, ML_len hT hF, if_pos rfl]
          exact h363 _ i13
        · rw [if_pos cf]; exact h363 _ i9
    by_cases cf : ¬ (Op.cmpValue (FP.dcmp (fidS n T) d1) .l = 0)
    · rw [if_pos cf] at h319 ⊢; exact h319
    · rw [if_neg cf] at h319 ⊢; exact h319
  by_cases cf : ¬ (Op.cmpValue (FP.dcmp (fidS n T) d1) .l = 0)
  · rw [if_pos cf] at h305; rw [if_pos (hz.mpr cf)]; exact h305
  · rw [if_neg cf] at h305; rw [if_neg (fun q => cf (hz.mp q))]; exact h305
theorem G_48 {L : Nat} {xs : Nat → Int32} {n : Nat} {T : TT} (hT : Sys n T) (h6 : n ≤ 6) (σ : SX) (h : XI σ n T none) :
    LPost (loopF FU (bd_L_law_48 L xs (nI (2 ^ n - 1)) (nI (RN n T))) (fun _ _ _ => none) (nI 0) (nI 0) σ) := by
  have hn := hT.2.1
  have hlen : RN n T ≤ 4094 := RgL_len hT
  refine loop_rel (body := bd_L_law_48 L xs (nI (2 ^ n - 1)) (nI (RN n T))) (bot := fun _ _ _ => none) (fun k (x : SX) g => g (nI (lsN n T k)) (nI k) x) (RN n T) (fun _ x => XI x n T none) LPost ?_ (fun rec x h => G_48e hT h6 _ rec x h) FU 0 σ (Nat.zero_le _) (by unfold FU; omega) h
  intro rec k x hk h kk
  have hr := rg_reg hk
  obtain ⟨g1, g2, g3⟩ := isReg_lt hT hr
  obtain ⟨σ1, e1, i1⟩ := X_region_ok hT h hk
  rw [bd_L_law_48, if_neg (nI_ge hk (by omega)), e1, bind2_ok]
  refine letb_K (P := LPost) fun σ2 e2 => ?_
  have i1 : XI σ2 n T none := by rw [e2]; exact XI_mrg i1
  clear e2
  refine letb_K (P := LPost) fun v56 e56 => ?_
  subst e56
  obtain ⟨σ3, e3, i3⟩ := X_isRegion_ok hT i1 g2
  rw [hr] at e3
  rw [e3, bind2_ok]
  refine letb_K (P := LPost) fun σ4 e4 => ?_
  have i3 : XI σ4 n T none := by rw [e4]; exact XI_mrg i3
  clear e4
  refine letb_K (P := LPost) fun K115 _ => ?_
  rw [if_neg b2iT]
  obtain ⟨σ5, e5, i5⟩ := X_isRegion_ok hT i3 (cmp_lt n (rg n T k))
  rw [cmp_reg hT hr] at e5
  rw [cmp_ok hn g3, e5, bind2_ok]
  refine letb_K (P := LPost) fun σ6 e6 => ?_
  have i5 : XI σ6 n T none := by rw [e6]; exact XI_mrg i5
  clear e6
  rw [if_neg b2iT]
  refine letb_K (P := LPost) fun K104 e104 => ?_
  have h104 : ∀ y, XI y n T none → LPost (K104 y) := by
    intro y hy
    obtain ⟨σ7, e7, i7⟩ := X_grow_ok hT hy g2
    rw [grow_reg hr] at e7
    rw [e104]
    show LPost (bind2 _ _)
    rw [e7, bind2_ok]
    refine letb_K (P := LPost) fun σ8 e8 => ?_
    have i7 : XI σ8 n T none := by rw [e8]; exact XI_mrg i7
    clear e8
    rw [if_pos rfl]
    refine letb_K (P := LPost) fun v e => ?_
    subst e
    exact G_120 hT hk (fun z hz => kk z hz) _ i7
  by_cases c : nI k ≤ 0
  · rw [if_pos c]; exact h104 _ i5
  · rw [if_neg c]
    have hk0 : 0 < k := Nat.pos_of_ne_zero fun q => c (by rw [q]; exact nI_le (a := 0) (b := 0) (Nat.le_refl 0) (by decide))
    obtain ⟨j, rfl⟩ : ∃ j, k = j + 1 := ⟨k - 1, by omega⟩
    rw [show (1 : Int32) = nI 1 from rfl, pk_sub (show 1 ≤ j + 1 by omega), show j + 1 - 1 = j by omega]
    obtain ⟨σ9, e9, i9⟩ := X_region_ok hT i5 (show j < RN n T by omega)
    rw [e9, bind2_ok]
    refine letb_K (P := LPost) fun σ10 e10 => ?_
    have i9 : XI σ10 n T none := by rw [e10]; exact XI_mrg i9
    clear e10
    rw [if_neg (nI_ge (rg_asc hk) (by omega))]
    exact h104 _ i9
theorem law_ok {L : Nat} {xs : Nat → Int32} {σ : SX} (h : XI σ 1 T0 none) : LPost (fw_L_law σ L xs) := by
  obtain ⟨n, h1, h6, σ1, T, e1, hT, i1⟩ := build_ok (L := L) (xs := xs) h
  have hn := hT.2.1
  unfold fw_L_law
  rw [e1, bind2_ok]
  refine letb_K (P := LPost) fun v3 e3 => ?_
  subst e3
  rw [if_pos (nI_pos' (by omega))]
  refine letb_K (P := LPost) fun v4 e4 => ?_
  have e4 : v4 = nI (2 ^ n - 1) := by
    rw [e4, i_shl (by omega), show (1 : Int32) = nI 1 from rfl, pk_sub (Nat.one_le_two_pow)]
  subst e4
  obtain ⟨σ2, e5, i2⟩ := X_regionCount hT i1
  rw [e5, bind2_ok]
  refine letb_K (P := LPost) fun σ3 e6 => ?_
  have i2 : XI σ3 n T none := by rw [e6]; exact XI_mrg i2
  clear e6
  refine letb_K (P := LPost) fun v e => ?_
  subst e
  refine letb_K (P := LPost) fun v e => ?_
  subst e
  refine letb_K (P := LPost) fun v e => ?_
  subst e
  exact G_48 hT h6 _ i2
