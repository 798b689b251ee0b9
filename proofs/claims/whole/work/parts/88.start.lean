/-! 88: the law, from its entry -/
theorem AOA_spec {ty : FieldType} {u : State} (h : va_AOA ty u) : ∃ comp c k, u.vm.findClass ("[" ++ (FieldType.array ty).toString) = some c ∧ u.vm.classes[c]? = some k ∧ k.kind = .array comp (.array ty) := by
  unfold va_AOA Cond.before Cond.holds at h
  simp only [Cond.value, beq_iff_eq] at h
  cases hc : u.vm.findClass (FieldType.array ty).toString with
  | none => simp [hc] at h
  | some comp =>
    simp only [hc, Option.bind_some, Option.bind_eq_some_iff, Option.map_eq_some_iff] at h
    obtain ⟨c, hi, k, hk, hb⟩ := h
    cases hkind : k.kind with
    | array component t9 =>
      rw [hkind] at hb
      simp at hb
      exact ⟨component, c, k, hb.2, hk, by rw [hkind, hb.1]⟩
    | _ => rw [hkind] at hb; simp at hb
theorem str_ex {k : Nat} {t : String} {A : Array Value} {s : State} (h1 : (Cond.stringRef RX3 k t).before A s = true) (h2 : (Cond.exactly (.string RX3 k) "java/lang/String").before A s = true) : ∃ a, vk_R RX3 k t a s := by
  obtain ⟨a, c, cA, kA, q1, -⟩ := Cond.exactly_spec (args := A) (first := s) (o := none) (s := s) (idx := []) (t := .string RX3 k) (cls := "java/lang/String") h2
  exact ⟨a, vk_R.of h1 q1⟩
theorem tb_at {s : State} {A : Array Value} (hts : ∀ w ∈ lw_tbl, w.before A s = true) (i : Nat) {w : Cond} (h : tables_1[i]? = some w) : w.before A s = true := hts w (List.mem_append_right _ (List.mem_of_getElem? h))
theorem st_nk {s : State} {A : Array Value} (hts : ∀ w ∈ lw_tbl, w.before A s = true) : nk s :=
  ⟨va_Nw.of rfl (tb_at hts 30 (by decide +kernel)), va_Nw.of rfl (tb_at hts 31 (by decide +kernel)), va_Nw.of rfl (tb_at hts 32 (by decide +kernel)), va_Nw.of rfl (tb_at hts 59 (by decide +kernel)), va_Nw.of rfl (tb_at hts 78 (by decide +kernel)), va_Nw.of rfl (tb_at hts 80 (by decide +kernel)),
   va_Nw.of rfl (tb_at hts 85 (by decide +kernel)), va_Nw.of rfl (tb_at hts 86 (by decide +kernel)), va_Nw.of rfl (tb_at hts 138 (by decide +kernel)), va_Nw.of rfl (tb_at hts 178 (by decide +kernel)), va_Nw.of rfl (tb_at hts 247 (by decide +kernel))⟩
theorem st_TX {s : State} {b : Addr} (hts : ∀ w ∈ lw_tbl, w.before #[Value.ref b] s = true) (hgv : (Jvm.Cond.and given_1 narrow_1).before #[Value.ref b] s = true) : TX s := by
  have hs := flat_of_before _ hgv
  exact ⟨str_ex (tb_at hts 315 (by decide +kernel)) (hs _ (by decide +kernel)), str_ex (tb_at hts 416 (by decide +kernel)) (hs _ (by decide +kernel)), str_ex (tb_at hts 566 (by decide +kernel)) (hs _ (by decide +kernel)), str_ex (tb_at hts 644 (by decide +kernel)) (hs _ (by decide +kernel)),
    str_ex (tb_at hts 367 (by decide +kernel)) (hs _ (by decide +kernel)), str_ex (tb_at hts 377 (by decide +kernel)) (hs _ (by decide +kernel)), str_ex (tb_at hts 469 (by decide +kernel)) (hs _ (by decide +kernel)), str_ex (tb_at hts 499 (by decide +kernel)) (hs _ (by decide +kernel)), str_ex (tb_at hts 565 (by decide +kernel)) (hs _ (by decide +kernel)),
    va_Nw.of rfl (tb_at hts 360 (by decide +kernel)), va_Nw.of rfl (tb_at hts 276 (by decide +kernel)), va_Nw.of rfl (tb_at hts 462 (by decide +kernel)), va_Nw.of rfl (tb_at hts 278 (by decide +kernel)), va_Nw.of rfl (tb_at hts 280 (by decide +kernel)), va_Nw.of rfl (tb_at hts 282 (by decide +kernel))⟩
theorem st_ZX {s : State} {b : Addr} (hts : ∀ w ∈ lw_tbl, w.before #[Value.ref b] s = true) (hgv : (Jvm.Cond.and given_1 narrow_1).before #[Value.ref b] s = true) : ZX (AL s) s s.heap := by
  have hs := flat_of_before _ hgv
  exact ⟨vx_Zqof (tb_at hts 301 (by decide +kernel)) (tb_at hts 6 (by decide +kernel)) (hs _ (by decide +kernel)) (fun a h z => absurd h (Nat.not_lt.mpr z)), vx_Zqof (tb_at hts 303 (by decide +kernel)) (tb_at hts 6 (by decide +kernel)) (hs _ (by decide +kernel)) (fun a h z => absurd h (Nat.not_lt.mpr z))⟩
theorem st_NC {s : State} {b : Addr} (hgv : (Jvm.Cond.and given_1 narrow_1).before #[Value.ref b] s = true) : NC s := by
  have hs := flat_of_before _ hgv
  exact ⟨va_Nc.of (hs _ (by decide +kernel)), va_Nc.of (hs _ (by decide +kernel)), va_Nc.of (hs _ (by decide +kernel))⟩
theorem st_K {s : State} {b : Addr} (hts : ∀ w ∈ lw_tbl, w.before #[Value.ref b] s = true) : ∃ (D : va_G) (cI cII : ClassId), KX D cI cII s := by
  have htl : ∀ w ∈ wsL_law, w.before #[Value.ref b] s = true := fun w hw => hts w (wsL_law_in w hw)
  obtain ⟨c0, i0, h0⟩ := u_known (C := RX0) (T := TX0) (N := 11) (n := 11) htl inlX0 (tb_at hts 70 (by decide +kernel))
  obtain ⟨c1, i1, h1⟩ := u_known (C := RX1) (T := TX1) (N := 4) (n := 4) htl inlX1 (tb_at hts 50 (by decide +kernel))
  obtain ⟨c2, i2, h2⟩ := u_known (C := RX2) (T := TX2) (N := 5) (n := 5) htl inlX2 (tb_at hts 22 (by decide +kernel))
  obtain ⟨c3, i3, h3⟩ := u_known (C := RX3) (T := TX3) (N := 3) (n := 3) htl inlX3 (tb_at hts 14 (by decide +kernel))
  obtain ⟨c4, i4, h4⟩ := u_known (C := RX4) (T := TX4) (N := 12) (n := 12) htl inlX4 (tb_at hts 667 (by decide +kernel))
  obtain ⟨cI, kI, comp, f1, f2, f3⟩ := Cond.arrayClass_spec (tb_at hts 48 (w := .arrayClass .int) (by decide +kernel))
  obtain ⟨comp2, cII, kII, g1, g2, g3⟩ := AOA_spec (va_AOA.of (ty := .int) (tb_at hts 28 (by decide +kernel)))
  refine ⟨((fun k => if k = 0 then c0 else if k = 1 then c1 else if k = 2 then c2 else if k = 3 then c3 else c4), (fun k => if k = 0 then i0 else if k = 1 then i1 else if k = 2 then i2 else if k = 3 then i3 else i4)), cI, cII, ⟨fun k q hq => ?_, fun k q hq => ?_⟩, st_nk hts⟩
  · match k, hq with
    | 0, hq => cases hq; exact h0
    | 1, hq => cases hq; exact h1
    | 2, hq => cases hq; exact h2
    | 3, hq => cases hq; exact h3
    | 4, hq => cases hq; exact h4
    | k + 5, hq => simp [vwCl] at hq
  · match k, hq with
    | 0, hq => cases hq; exact ⟨fun n z => ⟨fun k h => (by cases h), kI, f2, comp, f3⟩, f1⟩
    | 1, hq => cases hq; exact ⟨fun n z => ⟨fun k h => (by cases h), kII, g2, comp2, g3⟩, g1⟩
    | k + 2, hq => simp [gT] at hq
