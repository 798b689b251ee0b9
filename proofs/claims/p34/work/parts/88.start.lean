/-! 88: the law, from its entry: what the tables say -/
theorem AOA_spec {ty : FieldType} {u : State} (h : va_AOA ty u) : ∃ comp c k, u.vm.findClass ("[" ++ (FieldType.array ty).toString) = some c ∧ u.vm.classes[c]? = some k ∧ k.kind = .array comp (.array ty) := by
  unfold va_AOA Cond.before Cond.holds at h
  simp only [Cond.value, beq_iff_eq] at h
  cases hc : u.vm.findClass (FieldType.array ty).toString with
  | none => simp [hc] at h
  | some comp =>
    simp only [hc, Option.bind_some, Option.bind_eq_some_iff, Option.map_eq_some_iff] at h
    obtain ⟨c, hi, k, hk, hb⟩ := h
    cases hkind : k.kind with
    | array component t9 =>
      rw [hkind] at hb
      simp at hb
      exact ⟨component, c, k, hb.2, hk, by rw [hkind, hb.1]⟩
    | _ => rw [hkind] at hb; simp at hb
theorem tb_at {s : State} {A : Array Value} (hts : ∀ w ∈ lw_tbl, w.before A s = true) (i : Nat) {w : Cond} (h : tables_1[i]? = some w) : w.before A s = true := hts w (List.mem_append_right _ (List.mem_of_getElem? h))
theorem st_nk {s : State} {A : Array Value} (hts : ∀ w ∈ lw_tbl, w.before A s = true) : nk s :=
  ⟨va_Nw.of rfl (tb_at hts 30 (by decide +kernel)), va_Nw.of rfl (tb_at hts 31 (by decide +kernel)), va_Nw.of rfl (tb_at hts 32 (by decide +kernel)), va_Nw.of rfl (tb_at hts 59 (by decide +kernel)), va_Nw.of rfl (tb_at hts 78 (by decide +kernel)), va_Nw.of rfl (tb_at hts 80 (by decide +kernel)),
   va_Nw.of rfl (tb_at hts 85 (by decide +kernel)), va_Nw.of rfl (tb_at hts 86 (by decide +kernel)), va_Nw.of rfl (tb_at hts 218 (by decide +kernel)), va_Nw.of rfl (tb_at hts 330 (by decide +kernel)), va_Nw.of rfl (tb_at hts 396 (by decide +kernel))⟩
theorem st_K {s : State} {b : Addr} (hts : ∀ w ∈ lw_tbl, w.before #[Value.ref b] s = true) : ∃ (D : va_G) (cI cII : ClassId), KX D cI cII s := by
  have htl : ∀ w ∈ wsL_law, w.before #[Value.ref b] s = true := fun w hw => hts w (wsL_law_in w hw)
  obtain ⟨c0, i0, h0⟩ := u_known (C := RX0) (T := TX0) (N := 11) (n := 11) htl inlX0 (tb_at hts 70 (by decide +kernel))
  obtain ⟨c1, i1, h1⟩ := u_known (C := RX1) (T := TX1) (N := 4) (n := 4) htl inlX1 (tb_at hts 50 (by decide +kernel))
  obtain ⟨c2, i2, h2⟩ := u_known (C := RX2) (T := TX2) (N := 5) (n := 5) htl inlX2 (tb_at hts 22 (by decide +kernel))
  obtain ⟨c3, i3, h3⟩ := u_known (C := RX3) (T := TX3) (N := 3) (n := 3) htl inlX3 (tb_at hts 14 (by decide +kernel))
  obtain ⟨cI, kI, comp, f1, f2, f3⟩ := Cond.arrayClass_spec (tb_at hts 48 (w := .arrayClass .int) (by decide +kernel))
  obtain ⟨comp2, cII, kII, g1, g2, g3⟩ := AOA_spec (va_AOA.of (ty := .int) (tb_at hts 28 (by decide +kernel)))
  refine ⟨((fun k => if k = 0 then c0 else if k = 1 then c1 else if k = 2 then c2 else c3), (fun k => if k = 0 then i0 else if k = 1 then i1 else if k = 2 then i2 else i3)), cI, cII, ⟨fun k q hq => ?_, fun k q hq => ?_⟩, st_nk hts⟩
  · match k, hq with
    | 0, hq => cases hq; exact h0
    | 1, hq => cases hq; exact h1
    | 2, hq => cases hq; exact h2
    | 3, hq => cases hq; exact h3
    | k + 4, hq => simp [vwCl] at hq
  · match k, hq with
    | 0, hq => cases hq; exact ⟨fun n z => ⟨fun k h => (by cases h), kI, f2, comp, f3⟩, f1⟩
    | 1, hq => cases hq; exact ⟨fun n z => ⟨fun k h => (by cases h), kII, g2, comp2, g3⟩, g1⟩
    | k + 2, hq => simp [gT] at hq
/-- the class's cells with another cell beside them -/
theorem xk_at {D : va_G} {cI cII : ClassId} {κ κ' : Nat → Nat} {σ σ' : SX} {H : Heap} {k : Nat} (hk : k < 31) (hκ : ∀ j, j < 31 → κ' j = κ j) (h1 : σ'.1 = σ.1) (h2 : ∀ a, a < 31 → σ'.2 a = σ.2 a) (h : va_at D vwCl (κ k, xC cI cII κ σ k) H) : va_at D vwCl (κ' k, xC cI cII κ' σ' k) H := by
  rw [hκ k hk]
  by_cases c : k = 5 ∨ 8 ≤ k
  · rw [xC_arr c rfl] at h ⊢
    rw [h2 k hk]
    exact h
  · rcases (show k = 0 ∨ k = 1 ∨ k = 2 ∨ k = 3 ∨ k = 4 ∨ k = 6 ∨ k = 7 by omega) with rfl | rfl | rfl | rfl | rfl | rfl | rfl
    · show va_at D vwCl (κ 0, .inr (3, [.ref (κ' 1), .ref (κ' 2), .ref (κ' 3)])) H
      rw [hκ 1 (by decide), hκ 2 (by decide), hκ 3 (by decide)]
      exact h
    · show va_at D vwCl (κ 1, .inr (2, [.int (σ'.1 0), .ref (κ' 4), .ref (κ' 5), .ref (κ' 6), .ref (κ' 7)])) H
      rw [hκ 4 (by decide), hκ 5 (by decide), hκ 6 (by decide), hκ 7 (by decide), h1]
      exact h
    · show va_at D vwCl (κ 2, .inr (1, [.ref (κ' 1), .ref (κ' 8), .int (σ'.1 1), .int (σ'.1 2)])) H
      rw [hκ 1 (by decide), hκ 8 (by decide), h1]
      exact h
    · show va_at D vwCl (κ 3, .inr (0, [.ref (κ' 1), .ref (κ' 2), .int (σ'.1 3), .int (σ'.1 4), .ref (κ' 9), .ref (κ' 10), .ref (κ' 11), .int (σ'.1 5), .int (σ'.1 6), .ref (κ' 12), .int (σ'.1 7)])) H
      rw [hκ 1 (by decide), hκ 2 (by decide), hκ 9 (by decide), hκ 10 (by decide), hκ 11 (by decide), hκ 12 (by decide), h1]
      exact h
    · have h : H[κ 4]? = some (vp_cell cII (6, .inr (.inr (.inr (.inr (fun i => some (κ (13 + i)))))))) := h
      exact h.trans (congrArg some (vp_rows (r := fun i => κ' (13 + i)) (r' := fun i => κ (13 + i)) (fun i hi => hκ _ (by omega))).symm)
    · have h : H[κ 6]? = some (vp_cell cII (6, .inr (.inr (.inr (.inr (fun i => some (κ (19 + i)))))))) := h
      exact h.trans (congrArg some (vp_rows (r := fun i => κ' (19 + i)) (r' := fun i => κ (19 + i)) (fun i hi => hκ _ (by omega))).symm)
    · have h : H[κ 7]? = some (vp_cell cII (6, .inr (.inr (.inr (.inr (fun i => some (κ (25 + i)))))))) := h
      exact h.trans (congrArg some (vp_rows (r := fun i => κ' (25 + i)) (r' := fun i => κ (25 + i)) (fun i hi => hκ _ (by omega))).symm)
