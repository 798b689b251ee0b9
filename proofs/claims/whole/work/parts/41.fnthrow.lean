/-! by wip/whole/gen.py: pure functions of the methods that may throw -/
def fn_X3_needState (σ : SX) (p1 : Int32) : Option ((Unit ⊕ String) × SX) :=
  letb (fun (_u : Unit) => some (.inr "java/lang/IndexOutOfBoundsException", σ)) fun (K15 : Unit → Option ((Unit ⊕ String) × SX)) =>
  if p1 < 0 then
  (K15 ())
  else
  (if p1 < (σ.1 0) then
  (some (.inl (), σ))
  else
  (K15 ()))

def fn_X3_needLabel (σ : SX) (p1 : Int32) : Option ((Unit ⊕ String) × SX) :=
  letb (fun (_u : Unit) => some (.inr "java/lang/IndexOutOfBoundsException", σ)) fun (K10 : Unit → Option ((Unit ⊕ String) × SX)) =>
  if p1 < 0 then
  (K10 ())
  else
  (if p1 < 6 then
  (some (.inl (), σ))
  else
  (K10 ()))

def fn_X3_needSet (σ : SX) (p1 : Int32) : Option ((Unit ⊕ String) × SX) :=
  letb (fun (_u : Unit) => some (.inr "java/lang/IllegalArgumentException", σ)) fun (K15 : Unit → Option ((Unit ⊕ String) × SX)) =>
  if p1 < 0 then
  (K15 ())
  else
  ((fn_X2_all σ).bind fun (v1 : Int32) =>
  if p1 ≤ v1 then
  (some (.inl (), σ))
  else
  (K15 ()))

def fn_X3_needRegion (σ : SX) (p1 : Int32) : Option ((Unit ⊕ String) × SX) :=
  letb (fun (τ_15 : SX) => some (.inr "java/lang/IndexOutOfBoundsException", τ_15)) fun (K15 : SX → Option ((Unit ⊕ String) × SX)) =>
  if p1 < 0 then
  (K15 σ)
  else
  (bind2 (fn_X1_count σ) fun (v2 : Int32) (σ1 : SX) =>
  if p1 < v2 then
  (some (.inl (), σ1))
  else
  (K15 σ1))

def fn_X3_needNet (σ : SX)  : Option ((Unit ⊕ String) × SX) :=
  if ¬ (σ.1 3) = 0 then
  (some (.inl (), σ))
  else
  (some (.inr "java/lang/IllegalStateException", σ))

def fn_X3_addState (σ : SX)  : Option ((Int32 ⊕ String) × SX) :=
  if (σ.1 0) < 12 then
  (letb ((σ.1 0)) fun (v1 : Int32) =>
  letb (ss σ 0 ((v1 + 1))) fun (σ2 : SX) =>
  (fn_X3_changed σ2).bind fun (σ3 : SX) =>
  some (.inl v1, σ3))
  else
  (some (.inr "java/lang/IllegalStateException", σ))

def fn_X3_step (σ : SX) (p1 : Int32) (p2 : Int32) (p3 : Int32) : Option ((Int32 ⊕ String) × SX) :=
  bindx (fn_X3_needState σ p1) fun _ (σ1 : SX) =>
  bindx (fn_X3_needLabel σ1 p2) fun _ (σ2 : SX) =>
  bindx (fn_X3_needState σ2 p3) fun _ (σ3 : SX) =>
  (fn_X2_end σ3 p1 p2).bind fun (v4 : Int32) =>
  letb (v4) fun (v5 : Int32) =>
  (fn_X2_put σ3 p1 p2 p3).bind fun (σ6 : SX) =>
  (fn_X3_changed σ6).bind fun (σ7 : SX) =>
  some (.inl v5, σ7)

def fn_X3_unstep (σ : SX) (p1 : Int32) (p2 : Int32) : Option ((Int32 ⊕ String) × SX) :=
  bindx (fn_X3_needState σ p1) fun _ (σ1 : SX) =>
  bindx (fn_X3_needLabel σ1 p2) fun _ (σ2 : SX) =>
  (fn_X2_end σ2 p1 p2).bind fun (v3 : Int32) =>
  letb (fun (z0_27 : Int32) => letb (z0_27) fun (v4 : Int32) =>
  letb (fun (τ_42 : SX) => (fn_X3_changed τ_42).bind fun (σ5 : SX) =>
  (zr v4).bind fun w9 => some (.inl w9, σ5)) fun (K42 : SX → Option ((Int32 ⊕ String) × SX)) =>
  if v4 = 0 then
  (K42 σ2)
  else
  ((fn_X2_put σ2 p1 p2 ((-1))).bind fun (σ6 : SX) =>
  K42 σ6)) fun (K27 : Int32 → Option ((Int32 ⊕ String) × SX)) =>
  if v3 = (-1) then
  (K27 0)
  else
  (K27 1)

def fn_X3_rename (σ : SX) (p1 : Int32) (p2 : Int32) : Option ((Int32 ⊕ String) × SX) :=
  bindx (fn_X3_needLabel σ p1) fun _ (σ1 : SX) =>
  bindx (fn_X3_needLabel σ1 p2) fun _ (σ2 : SX) =>
  (fn_X2_beginning σ2 p1).bind fun (v3 : Int32) =>
  letb (v3) fun (v4 : Int32) =>
  letb (fun (τ_54 : SX) => (fn_X3_changed τ_54).bind fun (σ5 : SX) =>
  (fn_J6_bitCount v4).bind fun (v6 : Int32) =>
  some (.inl v6, σ5)) fun (K54 : SX → Option ((Int32 ⊕ String) × SX)) =>
  if p1 = p2 then
  (K54 σ2)
  else
  ((fn_X2_beginning σ2 p2).bind fun (v7 : Int32) =>
  if (v4 &&& v7) = 0 then
  ((fn_X2_move σ2 p1 p2).bind fun (σ8 : SX) =>
  K54 σ8)
  else
  (some (.inr "java/lang/IllegalStateException", σ2)))

def fn_X3_target (σ : SX) (p1 : Int32) (p2 : Int32) : Option ((Int32 ⊕ String) × SX) :=
  bindx (fn_X3_needState σ p1) fun _ (σ1 : SX) =>
  bindx (fn_X3_needLabel σ1 p2) fun _ (σ2 : SX) =>
  (fn_X2_end σ2 p1 p2).bind fun (v3 : Int32) =>
  some (.inl v3, σ2)

def bd_X3_enabled_9 (p1 : Int32) (σ1 : SX) (rec9 : Int32 → Int32 → Option ((Int32 ⊕ String) × SX)) (x2_9 : Int32) (x3_9 : Int32) : Option ((Int32 ⊕ String) × SX) :=
  if 6 ≤ x3_9 then
  (some (.inl x2_9, σ1))
  else
  ((fn_X2_end σ1 p1 x3_9).bind fun (v4 : Int32) =>
  letb (fun (y2_34 : Int32) => letb (x3_9 + 1) fun (v5 : Int32) =>
  rec9 y2_34 v5) fun (K34 : Int32 → Option ((Int32 ⊕ String) × SX)) =>
  if v4 = (-1) then
  (K34 x2_9)
  else
  (letb ((x2_9 ||| (1 <<< (x3_9 &&& 31)))) fun (v6 : Int32) =>
  K34 v6))

def fn_X3_enabled (σ : SX) (p1 : Int32) : Option ((Int32 ⊕ String) × SX) :=
  bindx (fn_X3_needState σ p1) fun _ (σ1 : SX) =>
  letb (0) fun (v2 : Int32) =>
  letb (0) fun (v3 : Int32) =>
  loopF FU (bd_X3_enabled_9 p1 σ1) (fun _ _ => none) v2 v3

def fn_X3_distance (σ : SX) (p1 : Int32) : Option ((Int32 ⊕ String) × SX) :=
  bindx (fn_X3_needState σ p1) fun _ (σ1 : SX) =>
  (fn_X2_distanceTo σ1 p1).bind fun (v2 : Int32) =>
  some (.inl v2, σ1)

def fn_X3_crossing (σ : SX) (p1 : Int32) (p2 : Int32) : Option ((Int32 ⊕ String) × SX) :=
  bindx (fn_X3_needSet σ p1) fun _ (σ1 : SX) =>
  bindx (fn_X3_needLabel σ1 p2) fun _ (σ2 : SX) =>
  (fn_X2_way σ2 p1 p2).bind fun (v3 : Int32) =>
  some (.inl v3, σ2)

def fn_X3_isRegion (σ : SX) (p1 : Int32) : Option ((Int32 ⊕ String) × SX) :=
  bindx (fn_X3_needSet σ p1) fun _ (σ1 : SX) =>
  (fn_X1_isOne σ1 p1).bind fun (v2 : Int32) =>
  (zr v2).bind fun w9 => some (.inl w9, σ1)

def fn_X3_region (σ : SX) (p1 : Int32) : Option ((Int32 ⊕ String) × SX) :=
  bindx (fn_X3_needRegion σ p1) fun _ (σ1 : SX) =>
  (fn_X1_at σ1 p1).bind fun (v2 : Int32) =>
  some (.inl v2, σ1)

def fn_X3_isLeast (σ : SX) (p1 : Int32) : Option ((Int32 ⊕ String) × SX) :=
  bindx (fn_X3_needRegion σ p1) fun _ (σ1 : SX) =>
  (fn_X1_hasNoPart σ1 p1).bind fun (v2 : Int32) =>
  (zr v2).bind fun w9 => some (.inl w9, σ1)

def fn_X3_grow (σ : SX) (p1 : Int32) : Option ((Int32 ⊕ String) × SX) :=
  bindx (fn_X3_needSet σ p1) fun _ (σ1 : SX) =>
  (fn_X2_grown σ1 p1).bind fun (v2 : Int32) =>
  some (.inl v2, σ1)

def fn_X3_apart (σ : SX) (p1 : Int32) (p2 : Int32) : Option ((Int32 ⊕ String) × SX) :=
  bindx (fn_X3_needState σ p1) fun _ (σ1 : SX) =>
  bindx (fn_X3_needState σ1 p2) fun _ (σ2 : SX) =>
  bind2 (fn_X1_firstApart σ2 p1 p2) fun (v4 : Int32) (σ3 : SX) =>
  some (.inl v4, σ3)

def fn_X3_preventer (σ : SX) (p1 : Int32) (p2 : Int32) : Option ((Int32 ⊕ String) × SX) :=
  bindx (fn_X3_needState σ p1) fun _ (σ1 : SX) =>
  bindx (fn_X3_needLabel σ1 p2) fun _ (σ2 : SX) =>
  (fn_X2_end σ2 p1 p2).bind fun (v3 : Int32) =>
  if v3 = (-1) then
  (bind2 (fn_X1_firstPreventing σ2 p1 p2) fun (v5 : Int32) (σ4 : SX) =>
  some (.inl v5, σ4))
  else
  (some (.inl ((-2)), σ2))

def fn_X3_placeRegion (σ : SX) (p1 : Int32) : Option ((Int32 ⊕ String) × SX) :=
  bindx (fn_X3_needNet σ) fun _ (σ1 : SX) =>
  letb (fun (_u : Unit) => some (.inr "java/lang/IndexOutOfBoundsException", σ1)) fun (K19 : Unit → Option ((Int32 ⊕ String) × SX)) =>
  if p1 < 0 then
  (K19 ())
  else
  (if p1 < (σ1.1 4) then
  ((fn_X0_regionOf σ1 p1).bind fun (v2 : Int32) =>
  some (.inl v2, σ1))
  else
  (K19 ()))

def fn_X3_consumed (σ : SX) (p1 : Int32) : Option ((Int32 ⊕ String) × SX) :=
  bindx (fn_X3_needNet σ) fun _ (σ1 : SX) =>
  bindx (fn_X3_needLabel σ1 p1) fun _ (σ2 : SX) =>
  (fn_X0_takenBy σ2 p1).bind fun (v3 : Int32) =>
  some (.inl v3, σ2)

def fn_X3_produced (σ : SX) (p1 : Int32) : Option ((Int32 ⊕ String) × SX) :=
  bindx (fn_X3_needNet σ) fun _ (σ1 : SX) =>
  bindx (fn_X3_needLabel σ1 p1) fun _ (σ2 : SX) =>
  (fn_X0_givenBy σ2 p1).bind fun (v3 : Int32) =>
  some (.inl v3, σ2)

def fn_X3_marking (σ : SX)  : Option ((Int32 ⊕ String) × SX) :=
  bindx (fn_X3_needNet σ) fun _ (σ1 : SX) =>
  some (.inl ((σ1.1 6)), σ1)

def fn_X3_fire (σ : SX) (p1 : Int32) : Option ((Int32 ⊕ String) × SX) :=
  bindx (fn_X3_needNet σ) fun _ (σ1 : SX) =>
  bindx (fn_X3_needLabel σ1 p1) fun _ (σ2 : SX) =>
  (fn_X0_canFire σ2 p1 ((σ2.1 6))).bind fun (v3 : Int32) =>
  if ¬ v3 = 0 then
  ((fn_X0_behind σ2 p1 ((σ2.1 6))).bind fun (v4 : Int32) =>
  letb (ss σ2 6 v4) fun (σ5 : SX) =>
  some (.inl ((σ5.1 6)), σ5))
  else
  (some (.inl ((-1)), σ2))

def fn_X3_markingCount (σ : SX)  : Option ((Int32 ⊕ String) × SX) :=
  bindx (fn_X3_needNet σ) fun _ (σ1 : SX) =>
  bind2 (fn_X0_markingsFound σ1) fun (v3 : Int32) (σ2 : SX) =>
  some (.inl v3, σ2)

def fn_X3_markingAt (σ : SX) (p1 : Int32) : Option ((Int32 ⊕ String) × SX) :=
  bindx (fn_X3_needNet σ) fun _ (σ1 : SX) =>
  letb (fun (τ_19 : SX) => some (.inr "java/lang/IndexOutOfBoundsException", τ_19)) fun (K19 : SX → Option ((Int32 ⊕ String) × SX)) =>
  if p1 < 0 then
  (K19 σ1)
  else
  (bind2 (fn_X0_markingsFound σ1) fun (v3 : Int32) (σ2 : SX) =>
  if p1 < v3 then
  ((fn_X0_markingFound σ2 p1).bind fun (v4 : Int32) =>
  some (.inl v4, σ2))
  else
  (K19 σ2))

def fn_X3_isFaithful (σ : SX)  : Option ((Int32 ⊕ String) × SX) :=
  bindx (fn_X3_needNet σ) fun _ (σ1 : SX) =>
  (fn_X0_behavesLikeSystem σ1).bind fun (v2 : Int32) =>
  (zr v2).bind fun w9 => some (.inl w9, σ1)
