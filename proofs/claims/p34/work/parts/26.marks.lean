/-! 26: the markings that can come -/
def canS (n : Nat) (T : TT) (l m : Nat) : Bool := (src T l (fun _ => true) != 0) && (m &&& crossS n T l 2 == crossS n T l 2) && (m &&& crossS n T l 1 == 0)
def behS (n : Nat) (T : TT) (l m : Nat) : Nat := ndf m (crossS n T l 2) ||| crossS n T l 1
theorem behS_lt {n : Nat} {T : TT} {l m : Nat} (hm : m < 2 ^ 30) : behS n T l m < 2 ^ 30 := Nat.or_lt_two_pow (ndf_lt hm) (crossS_lt _ _ _ _)
theorem L_canFire {σ : SX} {n : Nat} {T : TT} (h : EB σ n T) (hN : NetD σ n T) {l m : Nat} (hl : l < 6) (hm : m < 2 ^ 30) : fn_X0_canFire σ (nI l) (nI m) = some (b2i (canS n T l m)) := by
  unfold fn_X0_canFire
  have b2 := crossS_lt n T l 2
  have b1 := crossS_lt n T l 1
  have a2 : m &&& crossS n T l 2 < 2 ^ 31 := by have : m &&& crossS n T l 2 ≤ m := Nat.and_le_left; omega
  have a1 : m &&& crossS n T l 1 < 2 ^ 31 := by have : m &&& crossS n T l 1 ≤ m := Nat.and_le_left; omega
  rw [L_beginning h hl, Option.bind_some, ag_nI hl (by decide), ag_nI hl (by decide), (hN.2.1 l hl).1, (hN.2.1 l hl).2]
  simp only [letb, Option.bind_some]
  rw [i_and (by omega) (by omega), i_and (by omega) (by omega)]
  unfold canS
  by_cases c0 : src T l (fun _ => true) = 0
  · rw [if_pos ((nI_z (src_lt' _ _ _)).mpr c0), c0]; rfl
  · rw [if_neg (fun q => c0 ((nI_z (src_lt' _ _ _)).mp q)), show (src T l (fun _ => true) != 0) = true by simpa using c0]
    by_cases c2 : m &&& crossS n T l 2 = crossS n T l 2
    · rw [if_neg (fun q => q (congrArg nI c2)), show (m &&& crossS n T l 2 == crossS n T l 2) = true by simpa using c2]
      by_cases c1 : m &&& crossS n T l 1 = 0
      · rw [if_neg (fun q => q ((nI_z a1).mpr c1)), show (m &&& crossS n T l 1 == 0) = true by simpa using c1]; rfl
      · rw [if_pos (fun q => c1 ((nI_z a1).mp q)), show (m &&& crossS n T l 1 == 0) = false by simpa using c1]; rfl
    · rw [if_pos (nI_ne a2 (by omega) c2), show (m &&& crossS n T l 2 == crossS n T l 2) = false by simpa using c2]; rfl
theorem L_behind {σ : SX} {n : Nat} {T : TT} (hN : NetD σ n T) {l m : Nat} (hl : l < 6) (hm : m < 2 ^ 30) : fn_X0_behind σ (nI l) (nI m) = some (nI (behS n T l m)) := by
  unfold fn_X0_behind
  have b2 := crossS_lt n T l 2
  have b1 := crossS_lt n T l 1
  have b3 := ndf_lt (b := crossS n T l 2) hm
  rw [ag_nI hl (by decide), ag_nI hl (by decide), (hN.2.1 l hl).1, (hN.2.1 l hl).2, Option.bind_some, Option.bind_some, i_ndf (by omega) (by omega), i_or (by omega) (by omega)]
  rfl
/-- the list of markings, as the class has it -/
def MkD (σ : SX) (L : List Nat) : Prop := σ.1 7 = nI L.length ∧ ArD (σ.2 12) L
def push (L : List Nat) (m : Nat) : List Nat := if L.length < 200 then (if L.contains m then L else L ++ [m]) else L
def OkL (L : List Nat) : Prop := L.length ≤ 200 ∧ 0 < L.length ∧ ∀ a, a ∈ L → a < 2 ^ 30
theorem push_ok {L : List Nat} {m : Nat} (h : OkL L) (hm : m < 2 ^ 30) : OkL (push L m) := by
  unfold push
  split
  · split
    · exact h
    · refine ⟨by rw [List.length_append]; simp; omega, by rw [List.length_append]; simp, fun a ha => ?_⟩
      rcases List.mem_append.mp ha with ha | ha
      · exact h.2.2 a ha
      · rw [List.mem_singleton.mp ha]; exact hm
  · exact h
theorem push_pre (L : List Nat) (m : Nat) : ∃ l, push L m = L ++ l := by
  unfold push
  split
  · split
    · exact ⟨[], by simp⟩
    · exact ⟨[m], rfl⟩
  · exact ⟨[], by simp⟩
/-- what looking for markings keeps -/
def KeepM (σ σ' : SX) : Prop := (∀ k, k ≠ 7 → σ'.1 k = σ.1 k) ∧ ∀ a, a ≠ 12 → σ'.2 a = σ.2 a
theorem KeepM.rf {σ : SX} : KeepM σ σ := ⟨fun _ _ => rfl, fun _ _ => rfl⟩
theorem KeepM.trans {σ σ' σ'' : SX} (h1 : KeepM σ σ') (h2 : KeepM σ' σ'') : KeepM σ σ'' := ⟨fun k a => (h2.1 k a).trans (h1.1 k a), fun a b => (h2.2 a b).trans (h1.2 a b)⟩
theorem EB.keepM {σ σ' : SX} {n : Nat} {T : TT} (h : EB σ n T) (hk : KeepM σ σ') : EB σ' n T := by
  refine ⟨by rw [hk.1 0 (by decide)]; exact h.1, fun l s hl hs => ?_, fun l hl => ?_⟩
  · rw [hk.2 _ (by omega)]; exact h.2.1 l s hl hs
  · rw [hk.2 _ (by omega)]; exact h.2.2 l hl
theorem StOk.keepM {σ σ' : SX} {n : Nat} {T : TT} (h : StOk σ n T) (hk : KeepM σ σ') : StOk σ' n T :=
  ⟨h.1.keepM hk, fun l hl => (h.2 l hl).moved (hk.2 _ (by omega)) (hk.2 _ (by omega)) (fun _ => rfl)⟩
theorem Known.keepM {σ σ' : SX} {n : Nat} {T : TT} (h : Known σ n T) (hk : KeepM σ σ') : Known σ' n T := h.same (hk.1 2 (by decide)) (hk.1 1 (by decide)) (hk.2 8 (by decide))
theorem NetD.keepM {σ σ' : SX} {n : Nat} {T : TT} (h : NetD σ n T) (hk : KeepM σ σ') : NetD σ' n T := by
  refine ⟨⟨by rw [hk.1 4 (by decide)]; exact h.1.1, by rw [hk.2 9 (by decide)]; exact h.1.2⟩, fun l hl => ?_, by rw [hk.1 5 (by decide)]; exact h.2.2⟩
  rw [hk.2 10 (by decide), hk.2 11 (by decide)]; exact h.2.1 l hl
theorem L_keepNew {σ : SX} {L : List Nat} (h : MkD σ L) (hL : OkL L) {m : Nat} (hm : m < 2 ^ 30) : ∃ σ', fn_X0_keepNew σ (nI m) = some σ' ∧ KeepM σ σ' ∧ MkD σ' (push L m) := by
  unfold fn_X0_keepNew push
  rw [h.1]
  by_cases c : L.length < 200
  · rw [if_pos (show nI L.length < (200 : Int32) from nI_lt c (by decide)), if_pos c]
    simp only [letb]
    have := loop_find (body := bd_X0_keepNew_13 σ (nI m)) (bot := fun _ => none) (fun i g => g (nI i)) L.length (fun i => L.getD i 0 == m) (fun _ => some σ) (some (ss (sa σ 12 L.length (nI m)) 7 (nI (L.length + 1)))) (by unfold FU; omega)
      (fun rec i hi hp => by
        have bi := hL.2.2 _ (getD_mem hi)
        unfold bd_X0_keepNew_13
        rw [h.1, if_neg (nI_ge hi (by omega)), ag_nI (by omega) (by decide), Option.bind_some, h.2 i hi, if_pos (nI_ne (by omega) (by omega) (by simpa using hp))]
        simp only [letb]
        rw [nI_1])
      (fun rec i hi hp => by
        have bi := hL.2.2 _ (getD_mem hi)
        unfold bd_X0_keepNew_13
        rw [h.1, if_neg (nI_ge hi (by omega)), ag_nI (by omega) (by decide), Option.bind_some, h.2 i hi, if_neg (fun q => q (congrArg nI (by simpa using hp)))])
      (fun rec => by
        unfold bd_X0_keepNew_13
        rw [h.1, if_pos (nI_le (Nat.le_refl _) (by omega)), as_nI (by omega) (by decide), Option.bind_some]
        simp only [letb]
        rw [sa1, h.1, nI_1])
    rw [show loopF FU (bd_X0_keepNew_13 σ (nI m)) (fun _ => none) 0 = _ from this]
    cases e : fnd L.length (fun i => L.getD i 0 == m) with
    | some j =>
      obtain ⟨h1, h2, -⟩ := fnd_some e
      have h3 : L.contains m = true := by
        rw [List.contains_iff_mem]
        have := getD_mem h1
        rw [show L.getD j 0 = m by simpa using h2] at this
        exact this
      rw [if_pos h3]
      exact ⟨σ, rfl, KeepM.rf, h⟩
    | none =>
      have h3 : ¬ L.contains m = true := by
        rw [List.contains_iff_mem]
        intro hmem
        obtain ⟨j, hj, e2⟩ := List.getElem_of_mem hmem
        have := fnd_none e j hj
        rw [List.getD_eq_getElem?_getD, List.getElem?_eq_getElem hj] at this
        simp [e2] at this
      rw [if_neg h3]
      refine ⟨_, rfl, ⟨fun k hk => by rw [ss_ne hk, sa1], fun a ha => by rw [ss2, sa2 ha]⟩, ?_, ?_⟩
      · rw [ss_self, List.length_append]; rfl
      · exact h.2.push (fun j hj => by rw [ss2, sa_self, if_neg hj]) (by rw [ss2, sa_self, if_pos rfl])
  · rw [if_neg (show ¬ nI L.length < (200 : Int32) from nI_nlt (b := 200) (by omega) (by have := hL.1; omega)), if_neg c]
    exact ⟨σ, rfl, KeepM.rf, h⟩
/-- the markings that come from the k-th one by the first labels -/
def exL (n : Nat) (T : TT) (L : List Nat) (k : Nat) : Nat → List Nat
  | 0 => L
  | l + 1 => if canS n T l ((exL n T L k l).getD k 0) then push (exL n T L k l) (behS n T l ((exL n T L k l).getD k 0)) else exL n T L k l
theorem exL_pre {n : Nat} {T : TT} {L : List Nat} {k : Nat} : ∀ l, ∃ r, exL n T L k l = L ++ r
  | 0 => ⟨[], by simp [exL]⟩
  | l + 1 => by
    obtain ⟨r, hr⟩ := exL_pre (n := n) (T := T) (L := L) (k := k) l
    rw [exL]
    split
    · obtain ⟨r2, hr2⟩ := push_pre (exL n T L k l) (behS n T l ((exL n T L k l).getD k 0))
      exact ⟨r ++ r2, by rw [hr2, hr, List.append_assoc]⟩
    · exact ⟨r, hr⟩
theorem exL_get {n : Nat} {T : TT} {L : List Nat} {k l : Nat} (hk : k < L.length) : (exL n T L k l).getD k 0 = L.getD k 0 := by
  obtain ⟨r, hr⟩ := exL_pre (n := n) (T := T) (L := L) (k := k) l
  rw [hr, gd_l hk]
theorem exL_ok {n : Nat} {T : TT} {L : List Nat} {k : Nat} (h : OkL L) (hk : k < L.length) : ∀ l, OkL (exL n T L k l)
  | 0 => h
  | l + 1 => by
    have ih := exL_ok (n := n) (T := T) h hk l
    rw [exL]
    split
    · refine push_ok ih (behS_lt ?_)
      rw [exL_get hk]
      exact h.2.2 _ (getD_mem hk)
    · exact ih
/-- the list, when the first k have been looked at -/
def mkS (n : Nat) (T : TT) : Nat → List Nat
  | 0 => [withS n T 0]
  | k + 1 => if k < (mkS n T k).length then exL n T (mkS n T k) k 6 else mkS n T k
def ML (n : Nat) (T : TT) : List Nat := mkS n T 200
theorem mkS_ok {n : Nat} {T : TT} : ∀ k, OkL (mkS n T k)
  | 0 => ⟨by simp [mkS], by simp [mkS], fun a ha => by rw [List.mem_singleton.mp ha]; exact withS_lt n T 0⟩
  | k + 1 => by
    rw [mkS]
    split
    · next h => exact exL_ok (mkS_ok k) h 6
    · exact mkS_ok k
theorem mkS_fix {n : Nat} {T : TT} {k : Nat} (h : (mkS n T k).length ≤ k) : ∀ j, mkS n T (k + j) = mkS n T k
  | 0 => rfl
  | j + 1 => by
    show (if k + j < (mkS n T (k + j)).length then _ else mkS n T (k + j)) = _
    rw [mkS_fix h j, if_neg (by omega)]
theorem L_findMarkings {σ : SX} {n : Nat} {T : TT} (h : EB σ n T) (hN : NetD σ n T) : ∃ σ', fn_X0_findMarkings σ = some σ' ∧ KeepM σ σ' ∧ MkD σ' (ML n T) := by
  unfold fn_X0_findMarkings
  rw [show (0 : Int32) = nI 0 from rfl, as_nI (by decide) (by decide), Option.bind_some, hN.2.2]
  simp only [letb]
  refine loop_rel (body := bd_X0_findMarkings_17) (bot := fun _ _ => none) (fun i (τ : SX) g => g (nI i) τ) 200 (fun i τ => KeepM σ τ ∧ MkD τ (mkS n T i)) (fun o => ∃ σ', o = some σ' ∧ KeepM σ σ' ∧ MkD σ' (ML n T)) ?_ ?_ FU 0 _ (Nat.zero_le _) (by decide) ⟨⟨fun k hk => by rw [ss_ne hk, sa1], fun a ha => by rw [ss2, sa2 ha]⟩, ss_self, ?_⟩
  · intro rec i τ hi ⟨hK, hM⟩ hnext
    unfold bd_X0_findMarkings_17
    have hok := mkS_ok (n := n) (T := T) i
    rw [if_neg (show ¬ (200 : Int32) ≤ nI i from nI_ge hi (by decide)), hM.1]
    by_cases c : (mkS n T i).length ≤ i
    · rw [if_pos (nI_le c (by omega))]
      refine ⟨τ, rfl, hK, ?_⟩
      have := mkS_fix c (200 - i)
      rw [show i + (200 - i) = 200 by omega] at this
      unfold ML
      rw [this]; exact hM
    · rw [if_neg (nI_ge (by omega) (by have := hok.1; omega))]
      simp only [letb]
      have hi2 : i < (mkS n T i).length := by omega
      refine loop_rel (body := bd_X0_findMarkings_34 rec (nI i)) (bot := fun _ _ => none) (fun l (τ : SX) g => g (nI l) τ) 6 (fun l τ => KeepM σ τ ∧ MkD τ (exL n T (mkS n T i) i l)) (fun o => ∃ σ', o = some σ' ∧ KeepM σ σ' ∧ MkD σ' (ML n T)) ?_ ?_ FU 0 τ (Nat.zero_le _) (by decide) ⟨hK, hM⟩
      · intro rec2 l τ hl ⟨hK, hM⟩ hnext2
        unfold bd_X0_findMarkings_34
        have hok2 := exL_ok (n := n) (T := T) hok hi2 l
        have hlen : i < (exL n T (mkS n T i) i l).length := by
          obtain ⟨r, hr⟩ := exL_pre (n := n) (T := T) (L := mkS n T i) (k := i) l
          rw [hr, List.length_append]; omega
        have bm := hok2.2.2 _ (getD_mem hlen)
        rw [if_neg (show ¬ (6 : Int32) ≤ nI l from nI_ge hl (by decide)), ag_nI (by omega) (by decide), Option.bind_some, hM.2 i hlen, L_canFire (h.keepM hK) (hN.keepM hK) hl bm, Option.bind_some]
        simp only [letb]
        simp only [Option.bind_some]
        rw [nI_1, L_behind (hN.keepM hK) hl bm]
        simp only [Option.bind_some]
        cases e : canS n T l ((exL n T (mkS n T i) i l).getD i 0) with
        | false =>
          rw [if_pos b2iF]
          exact hnext2 τ ⟨hK, by rw [exL, e]; exact hM⟩
        | true =>
          rw [if_neg b2iT]
          obtain ⟨σ2, e2, k2, m2⟩ := L_keepNew hM hok2 (behS_lt (n := n) (T := T) (l := l) bm)
          rw [e2, Option.bind_some]
          exact hnext2 σ2 ⟨hK.trans k2, by rw [exL, e]; exact m2⟩
      · intro rec2 τ ⟨hK, hM⟩
        unfold bd_X0_findMarkings_34
        rw [if_pos (show (6 : Int32) ≤ nI 6 from nI_le (Nat.le_refl 6) (by decide))]
        simp only [letb]
        rw [nI_1]
        exact hnext τ ⟨hK, by rw [mkS, if_pos hi2]; exact hM⟩
  · intro rec τ ⟨hK, hM⟩
    unfold bd_X0_findMarkings_17
    rw [if_pos (show (200 : Int32) ≤ nI 200 from nI_le (Nat.le_refl 200) (by decide))]
    exact ⟨τ, rfl, hK, hM⟩
  · intro i hi
    have : i = 0 := by
      have : (mkS n T 0).length = 1 := rfl
      omega
    subst this
    rw [ss2, sa_self, if_pos rfl]; rfl
def Found (σ : SX) (n : Nat) (T : TT) : Prop := σ.1 7 = 0 ∨ MkD σ (ML n T)
theorem L_markingsFound {σ : SX} {n : Nat} {T : TT} (h : EB σ n T) (hN : NetD σ n T) (hF : Found σ n T) : ∃ σ', fn_X0_markingsFound σ = some (nI (ML n T).length, σ') ∧ KeepM σ σ' ∧ MkD σ' (ML n T) := by
  unfold fn_X0_markingsFound
  simp only [letb]
  have hok := mkS_ok (n := n) (T := T) 200
  by_cases c : σ.1 7 = 0
  · rw [if_neg (fun q => q c)]
    obtain ⟨σ1, e1, k1, m1⟩ := L_findMarkings h hN
    rw [e1, Option.bind_some, m1.1]
    exact ⟨σ1, rfl, k1, m1⟩
  · rw [if_pos c]
    rcases hF with hF | hF
    · exact absurd hF c
    · rw [hF.1]; exact ⟨σ, rfl, KeepM.rf, hF⟩