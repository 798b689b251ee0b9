/-! 27: whether the net behaves like the system (as the class asks it), the checksum, the whole state of the class -/
theorem loop_any {F R : Type} {body : F → F} {bot : F} (ap : Nat → F → R) (N : Nat) (p : Nat → Bool) (yes no : R) (hN : N < FU) (hstep : ∀ rec i, i < N → p i = false → ap i (body rec) = ap (i + 1) rec) (hyes : ∀ rec i, i < N → p i = true → ap i (body rec) = yes)
    (hend : ∀ rec, ap N (body rec) = no) : ap 0 (loopF FU body bot) = if anyB N p then yes else no := by
  rw [loop_find ap N p (fun _ => yes) no hN hstep hyes hend]
  have e := fnd_any (N := N) (p := p)
  cases e2 : fnd N p with
  | none => rw [e2] at e; rw [show anyB N p = false by simpa using e.symm]; rfl
  | some j => rw [e2] at e; rw [show anyB N p = true by simpa using e.symm]; rfl
def hasS (T : TT) (l s : Nat) : Bool := T l s != none
def badL (n : Nat) (T : TT) (s : Nat) : Bool := anyB 6 fun l => canS n T l (withS n T s) != hasS T l s
def badO (n : Nat) (T : TT) (s : Nat) : Bool := anyB s fun o => (rch T (n - 1)).testBit o && (withS n T o == withS n T s)
def faithS (n : Nat) (T : TT) : Bool := !anyB n fun s => (rch T (n - 1)).testBit s && (badL n T s || badO n T s)
theorem enc_has {n : Nat} {T : TT} (hT : Sys n T) {l s : Nat} : (if enc (T l s) = -1 then (0 : Int32) else 1) = b2i (hasS T l s) := by
  unfold hasS
  by_cases c : T l s = none
  · rw [if_pos ((enc_none hT).mpr c), c]; rfl
  · rw [if_neg (fun q => c ((enc_none hT).mp q)), show (T l s != none) = true by simpa using c]; rfl
theorem L_isMatched {σ : SX} {n : Nat} {T : TT} (hT : Sys n T) (h : EB σ n T) (hN : NetD σ n T) {s : Nat} (hs : s < n) : fn_X0_isMatched σ (nI s) (nI (rch T (n - 1))) = some (b2i (!(badL n T s || badO n T s))) := by
  have hn := hT.2.1
  have bw := withS_lt n T s
  have br := rch_lt T (n - 1)
  unfold fn_X0_isMatched
  rw [L_placesWith hT hN.1 (by omega), Option.bind_some]
  simp only [letb]
  have inner : loopF FU (bd_X0_isMatched_60 σ (nI s) (nI (rch T (n - 1))) (nI (withS n T s))) (fun _ => none) 0 = if badO n T s then some 0 else some 1 := by
    refine loop_any (fun i (g : Int32 → Option Int32) => g (nI i)) s (fun o => (rch T (n - 1)).testBit o && (withS n T o == withS n T s)) (some 0) (some 1) (by unfold FU; omega) ?_ ?_ ?_
    · intro rec o ho hp
      have bo := withS_lt n T o
      rw [bd_X0_isMatched_60, if_neg (nI_ge ho (by omega)), L_has (by omega) (by omega), Option.bind_some]
      simp only [letb]
      rw [nI_1, L_placesWith hT hN.1 (by omega), Option.bind_some]
      cases e : (rch T (n - 1)).testBit o with
      | false => rw [if_pos b2iF]
      | true =>
        rw [e] at hp
        rw [if_neg b2iT, if_pos (nI_ne (by omega) (by omega) (by simpa using hp))]
    · intro rec o ho hp
      have bo := withS_lt n T o
      simp only [Bool.and_eq_true, beq_iff_eq] at hp
      rw [bd_X0_isMatched_60, if_neg (nI_ge ho (by omega)), L_has (by omega) (by omega), Option.bind_some]
      simp only [letb]
      rw [nI_1, L_placesWith hT hN.1 (by omega), Option.bind_some, hp.1, if_neg b2iT, if_neg (fun q => q (congrArg nI hp.2))]; rfl
    · intro rec
      rw [bd_X0_isMatched_60, if_pos (nI_le (Nat.le_refl s) (by omega))]; rfl
  have outer : loopF FU (bd_X0_isMatched_9 σ (nI s) (nI (rch T (n - 1))) (nI (withS n T s))) (fun _ => none) 0 = if badL n T s then some 0 else (if badO n T s then some 0 else some 1) := by
    refine loop_any (fun i (g : Int32 → Option Int32) => g (nI i)) 6 (fun l => canS n T l (withS n T s) != hasS T l s) (some 0) _ (by decide) ?_ ?_ ?_
    · intro rec l hl hp
      have e1 : canS n T l (withS n T s) = hasS T l s := by simpa using hp
      rw [bd_X0_isMatched_9, if_neg (show ¬ (6 : Int32) ≤ nI l from nI_ge hl (by decide)), L_end h hl (by omega), Option.bind_some]
      simp only [letb]
      rw [nI_1, L_canFire h hN hl bw, e1]
      simp only [Option.bind_some]
      have := enc_has hT (l := l) (s := s)
      by_cases c : enc (T l s) = -1
      · rw [if_pos c] at this ⊢; rw [← this, if_pos rfl]
      · rw [if_neg c] at this ⊢; rw [← this, if_pos rfl]
    · intro rec l hl hp
      rw [bd_X0_isMatched_9, if_neg (show ¬ (6 : Int32) ≤ nI l from nI_ge hl (by decide)), L_end h hl (by omega), Option.bind_some]
      simp only [letb]
      rw [nI_1, L_canFire h hN hl bw]
      simp only [Option.bind_some]
      have := enc_has hT (l := l) (s := s)
      have ne : ¬ b2i (canS n T l (withS n T s)) = b2i (hasS T l s) := fun q => by
        rw [b2i_eq.mp q] at hp; simp at hp
      by_cases c : enc (T l s) = -1
      · rw [if_pos c] at this ⊢; rw [if_neg (show ¬ b2i (canS n T l (withS n T s)) = 0 from fun q => ne (q.trans this))]; rfl
      · rw [if_neg c] at this ⊢; rw [if_neg (show ¬ b2i (canS n T l (withS n T s)) = 1 from fun q => ne (q.trans this))]; rfl
    · intro rec
      rw [bd_X0_isMatched_9, if_pos (show (6 : Int32) ≤ nI 6 from nI_le (Nat.le_refl 6) (by decide))]
      simp only [letb]
      exact inner
  rw [outer]
  cases badL n T s <;> cases badO n T s <;> rfl
theorem L_faith {σ : SX} {n : Nat} {T : TT} (hT : Sys n T) (h : EB σ n T) (hN : NetD σ n T) : fn_X0_behavesLikeSystem σ = some (b2i (faithS n T)) := by
  have hn := hT.2.1
  have br := rch_lt T (n - 1)
  unfold fn_X0_behavesLikeSystem
  rw [L_reached hT h, Option.bind_some]
  simp only [letb]
  have := loop_any (body := bd_X0_behavesLikeSystem_10 σ (nI (rch T (n - 1)))) (bot := fun _ => none) (fun i g => g (nI i)) n (fun s => (rch T (n - 1)).testBit s && (badL n T s || badO n T s)) (some 0) (some 1) (by unfold FU; omega)
    (fun rec s hs hp => by
      rw [bd_X0_behavesLikeSystem_10, h.1, if_neg (nI_ge hs (by omega)), L_has (by omega) (by omega), Option.bind_some]
      simp only [letb]
      rw [nI_1, L_isMatched hT h hN hs, Option.bind_some]
      cases e : (rch T (n - 1)).testBit s with
      | false => rw [if_pos b2iF]
      | true =>
        rw [e] at hp
        rw [if_neg b2iT, show (badL n T s || badO n T s) = false by simpa using hp, if_pos (show ¬ b2i (!false) = 0 by decide)])
    (fun rec s hs hp => by
      simp only [Bool.and_eq_true] at hp
      rw [bd_X0_behavesLikeSystem_10, h.1, if_neg (nI_ge hs (by omega)), L_has (by omega) (by omega), Option.bind_some]
      simp only [letb]
      rw [nI_1, L_isMatched hT h hN hs, Option.bind_some, hp.1, if_neg b2iT, hp.2, if_neg (show ¬ ¬ b2i (!true) = 0 by decide)]; rfl)
    (fun rec => by
      rw [bd_X0_behavesLikeSystem_10, h.1, if_pos (nI_le (Nat.le_refl n) (by omega))]; rfl)
  refine Eq.trans this ?_
  unfold faithS
  cases anyB n fun s => (rch T (n - 1)).testBit s && (badL n T s || badO n T s) <;> rfl
/-! the whole state of the class: a system, and, where a net is made, the present marking -/
def NetOk (σ : SX) (n : Nat) (T : TT) (mk : Option Nat) : Prop := match mk with
  | none => σ.1 3 = 0
  | some m => σ.1 3 = 1 ∧ NetD σ n T ∧ Found σ n T ∧ σ.1 6 = nI m ∧ m < 2 ^ 30
def XI (σ : SX) (n : Nat) (T : TT) (mk : Option Nat) : Prop := StOk σ n T ∧ Known σ n T ∧ NetOk σ n T mk
theorem NetOk.keepR {σ σ' : SX} {n : Nat} {T : TT} {mk : Option Nat} (h : NetOk σ n T mk) (hk : KeepR σ σ') : NetOk σ' n T mk := by
  cases mk with
  | none => exact (hk.1 3 (by decide) (by decide)).trans h
  | some m =>
    obtain ⟨h1, ⟨⟨h2, h3⟩, h4, h5⟩, h6, h7, h8⟩ := h
    refine ⟨(hk.1 3 (by decide) (by decide)).trans h1, ⟨⟨(hk.1 4 (by decide) (by decide)).trans h2, by rw [hk.2 9 (by decide)]; exact h3⟩, fun l hl => by rw [hk.2 10 (by decide), hk.2 11 (by decide)]; exact h4 l hl, (hk.1 5 (by decide) (by decide)).trans h5⟩, ?_, (hk.1 6 (by decide) (by decide)).trans h7, h8⟩
    unfold Found MkD
    rw [hk.1 7 (by decide) (by decide), hk.2 12 (by decide)]
    exact h6
theorem XI.keepR {σ σ' : SX} {n : Nat} {T : TT} {mk : Option Nat} (h : XI σ n T mk) (hk : KeepR σ σ') (hn : Known σ' n T) : XI σ' n T mk := ⟨h.1.keepR hk, hn, h.2.2.keepR hk⟩
theorem XI.keepM {σ σ' : SX} {n : Nat} {T : TT} {m : Nat} (h : XI σ n T (some m)) (hk : KeepM σ σ') (hM : MkD σ' (ML n T)) : XI σ' n T (some m) := by
  obtain ⟨h0, h1, h2, h3, h4, h5, h6⟩ := h
  exact ⟨h0.keepM hk, h1.keepM hk, (hk.1 3 (by decide)).trans h2, h3.keepM hk, Or.inr hM, (hk.1 6 (by decide)).trans h5, h6⟩
theorem X_regionCount {σ : SX} {n : Nat} {T : TT} {mk : Option Nat} (hT : Sys n T) (h : XI σ n T mk) : ∃ σ', fn_X3_regionCount σ = some (nI (RgL n T).length, σ') ∧ XI σ' n T mk := by
  obtain ⟨σ1, e1, k1, h2, hR⟩ := L_count hT h.1 h.2.1
  unfold fn_X3_regionCount bind2
  rw [e1]
  exact ⟨σ1, rfl, h.keepR k1 (Or.inr ⟨h2, hR⟩)⟩
theorem X_lumps {σ : SX} {n : Nat} {T : TT} {mk : Option Nat} (hT : Sys n T) (h : XI σ n T mk) : ∃ σ', fn_X3_lumps σ = some (nI (lumpS n T), σ') ∧ XI σ' n T mk := by
  obtain ⟨σ1, e1, k1, h2⟩ := L_lumps hT h.1 h.2.1
  unfold fn_X3_lumps bind2
  rw [e1]
  exact ⟨σ1, rfl, h.keepR k1 h2⟩
theorem X_leaks {σ : SX} {n : Nat} {T : TT} {mk : Option Nat} (hT : Sys n T) (h : XI σ n T mk) : ∃ σ', fn_X3_leaks σ = some (nI (leakS n T), σ') ∧ XI σ' n T mk := by
  obtain ⟨σ1, e1, k1, h2⟩ := L_leaks hT h.1 h.2.1
  unfold fn_X3_leaks bind2
  rw [e1]
  exact ⟨σ1, rfl, h.keepR k1 h2⟩
theorem X_reached {σ : SX} {n : Nat} {T : TT} {mk : Option Nat} (hT : Sys n T) (h : XI σ n T mk) : fn_X3_reached σ = some (nI (rch T (n - 1))) := by
  unfold fn_X3_reached
  rw [L_reached hT h.1.1]; rfl
theorem X_stateCount {σ : SX} {n : Nat} {T : TT} {mk : Option Nat} (h : XI σ n T mk) : fn_X3_stateCount σ = some (nI n) := by
  unfold fn_X3_stateCount
  rw [h.1.1.1]
theorem X_makeNet {σ : SX} {n : Nat} {T : TT} {mk : Option Nat} (hT : Sys n T) (h : XI σ n T mk) : ∃ σ', fn_X3_makeNet σ = some (nI (PL n T).length, σ') ∧ XI σ' n T (some (withS n T 0)) := by
  unfold fn_X3_makeNet
  simp only [letb]
  have fin : ∀ τ : SX, StOk τ n T → Known τ n T → NetD τ n T → τ.1 3 = 1 → Found τ n T → ∃ σ', some ((ss τ 6 (τ.1 5)).1 4, ss τ 6 (τ.1 5)) = some (nI (PL n T).length, σ') ∧ XI σ' n T (some (withS n T 0)) := by
    intro τ h1 h2 h3 h4 h5
    refine ⟨_, by rw [ss_ne (by decide), h3.1.1], h1.of (ss_ne (by decide)) rfl, h2.same (ss_ne (by decide)) (ss_ne (by decide)) rfl, (ss_ne (by decide)).trans h4, ⟨⟨(ss_ne (by decide)).trans h3.1.1, h3.1.2⟩, h3.2.1, (ss_ne (by decide)).trans h3.2.2⟩, ?_, by rw [ss_self, h3.2.2], withS_lt n T 0⟩
    unfold Found MkD
    rw [ss_ne (by decide)]
    exact h5
  cases mk with
  | none =>
    rw [if_neg (fun q => q h.2.2)]
    obtain ⟨σ1, e1, h1, h2, h3, h4, h5⟩ := L_make hT h.1 h.2.1
    rw [e1, Option.bind_some]
    exact fin σ1 h1 h2 h3 h4 (Or.inl h5)
  | some m =>
    rw [if_pos (show ¬ σ.1 3 = 0 by rw [h.2.2.1]; decide)]
    exact fin σ h.1 h.2.1 h.2.2.2.1 h.2.2.1 h.2.2.2.2.1
/-! the checksum -/
def dS (d : Int64) (x : Int32) : Int64 := d * (31 : Int64) + x.toInt64
def rowD (T : TT) (s : Nat) (d : Int64) : Nat → Int64
  | 0 => d
  | l + 1 => dS (rowD T s d l) (enc (T l s))
def sysD (n : Nat) (T : TT) : Nat → Int64
  | 0 => dS 151 (nI n)
  | s + 1 => rowD T s (sysD n T s) 6
def regD (n : Nat) (T : TT) : Nat → Int64
  | 0 => dS (sysD n T n) (nI (RgL n T).length)
  | k + 1 => dS (regD n T k) (nI (rg n T k))
def digS (n : Nat) (T : TT) (mk : Option Nat) : Int64 := match mk with
  | none => regD n T (RgL n T).length
  | some m => dS (dS (regD n T (RgL n T).length) (nI (PL n T).length)) (nI m)