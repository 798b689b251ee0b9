/-! by wip/p34/gen.py: pure functions of the methods that may throw (a throw is none) -/
def fn_X3_needState (σ : SX) (p1 : Int32) : Option (SX) :=
  letb (fun (_u : Unit) => none) fun (K15 : Unit → Option (SX)) =>
  if p1 < 0 then
  (K15 ())
  else
  (if p1 < (σ.1 0) then
  (some σ)
  else
  (K15 ()))

def fn_X3_needLabel (σ : SX) (p1 : Int32) : Option (SX) :=
  letb (fun (_u : Unit) => none) fun (K10 : Unit → Option (SX)) =>
  if p1 < 0 then
  (K10 ())
  else
  (if p1 < 6 then
  (some σ)
  else
  (K10 ()))

def fn_X3_needSet (σ : SX) (p1 : Int32) : Option (SX) :=
  letb (fun (_u : Unit) => none) fun (K15 : Unit → Option (SX)) =>
  if p1 < 0 then
  (K15 ())
  else
  ((fn_X2_all σ).bind fun (v1 : Int32) =>
  if p1 ≤ v1 then
  (some σ)
  else
  (K15 ()))

def fn_X3_needRegion (σ : SX) (p1 : Int32) : Option (SX) :=
  letb (fun (τ_15 : SX) => none) fun (K15 : SX → Option (SX)) =>
  if p1 < 0 then
  (K15 σ)
  else
  (bind2 (fn_X1_count σ) fun (v2 : Int32) (σ1 : SX) =>
  if p1 < v2 then
  (some σ1)
  else
  (K15 σ1))

def fn_X3_needNet (σ : SX)  : Option (SX) :=
  if ¬ (σ.1 3) = 0 then
  (some σ)
  else
  (none)

def fn_X3_addState (σ : SX)  : Option (Int32 × SX) :=
  if (σ.1 0) < 12 then
  (letb ((σ.1 0)) fun (v1 : Int32) =>
  letb (ss σ 0 ((v1 + 1))) fun (σ2 : SX) =>
  (fn_X3_changed σ2).bind fun (σ3 : SX) =>
  some (v1, σ3))
  else
  (none)

def fn_X3_step (σ : SX) (p1 : Int32) (p2 : Int32) (p3 : Int32) : Option (Int32 × SX) :=
  (fn_X3_needState σ p1).bind fun (σ1 : SX) =>
  (fn_X3_needLabel σ1 p2).bind fun (σ2 : SX) =>
  (fn_X3_needState σ2 p3).bind fun (σ3 : SX) =>
  (fn_X2_end σ3 p1 p2).bind fun (v4 : Int32) =>
  letb (v4) fun (v5 : Int32) =>
  (fn_X2_put σ3 p1 p2 p3).bind fun (σ6 : SX) =>
  (fn_X3_changed σ6).bind fun (σ7 : SX) =>
  some (v5, σ7)

def fn_X3_target (σ : SX) (p1 : Int32) (p2 : Int32) : Option (Int32 × SX) :=
  (fn_X3_needState σ p1).bind fun (σ1 : SX) =>
  (fn_X3_needLabel σ1 p2).bind fun (σ2 : SX) =>
  (fn_X2_end σ2 p1 p2).bind fun (v3 : Int32) =>
  some (v3, σ2)

def fn_X3_crossing (σ : SX) (p1 : Int32) (p2 : Int32) : Option (Int32 × SX) :=
  (fn_X3_needSet σ p1).bind fun (σ1 : SX) =>
  (fn_X3_needLabel σ1 p2).bind fun (σ2 : SX) =>
  (fn_X2_way σ2 p1 p2).bind fun (v3 : Int32) =>
  some (v3, σ2)

def fn_X3_isRegion (σ : SX) (p1 : Int32) : Option (Int32 × SX) :=
  (fn_X3_needSet σ p1).bind fun (σ1 : SX) =>
  (fn_X1_isOne σ1 p1).bind fun (v2 : Int32) =>
  (zr v2).bind fun w9 => some (w9, σ1)

def fn_X3_region (σ : SX) (p1 : Int32) : Option (Int32 × SX) :=
  (fn_X3_needRegion σ p1).bind fun (σ1 : SX) =>
  (fn_X1_at σ1 p1).bind fun (v2 : Int32) =>
  some (v2, σ1)

def fn_X3_isLeast (σ : SX) (p1 : Int32) : Option (Int32 × SX) :=
  (fn_X3_needRegion σ p1).bind fun (σ1 : SX) =>
  (fn_X1_hasNoPart σ1 p1).bind fun (v2 : Int32) =>
  (zr v2).bind fun w9 => some (w9, σ1)

def fn_X3_grow (σ : SX) (p1 : Int32) : Option (Int32 × SX) :=
  (fn_X3_needSet σ p1).bind fun (σ1 : SX) =>
  (fn_X2_grown σ1 p1).bind fun (v2 : Int32) =>
  some (v2, σ1)

def fn_X3_placeRegion (σ : SX) (p1 : Int32) : Option (Int32 × SX) :=
  (fn_X3_needNet σ).bind fun (σ1 : SX) =>
  letb (fun (_u : Unit) => none) fun (K19 : Unit → Option (Int32 × SX)) =>
  if p1 < 0 then
  (K19 ())
  else
  (if p1 < (σ1.1 4) then
  ((fn_X0_regionOf σ1 p1).bind fun (v2 : Int32) =>
  some (v2, σ1))
  else
  (K19 ()))

def fn_X3_fire (σ : SX) (p1 : Int32) : Option (Int32 × SX) :=
  (fn_X3_needNet σ).bind fun (σ1 : SX) =>
  (fn_X3_needLabel σ1 p1).bind fun (σ2 : SX) =>
  (fn_X0_canFire σ2 p1 ((σ2.1 6))).bind fun (v3 : Int32) =>
  if ¬ v3 = 0 then
  ((fn_X0_behind σ2 p1 ((σ2.1 6))).bind fun (v4 : Int32) =>
  letb (ss σ2 6 v4) fun (σ5 : SX) =>
  some ((σ5.1 6), σ5))
  else
  (some ((-1), σ2))

def fn_X3_markingCount (σ : SX)  : Option (Int32 × SX) :=
  (fn_X3_needNet σ).bind fun (σ1 : SX) =>
  bind2 (fn_X0_markingsFound σ1) fun (v3 : Int32) (σ2 : SX) =>
  some (v3, σ2)

def fn_X3_isFaithful (σ : SX)  : Option (Int32 × SX) :=
  (fn_X3_needNet σ).bind fun (σ1 : SX) =>
  (fn_X0_behavesLikeSystem σ1).bind fun (v2 : Int32) =>
  (zr v2).bind fun w9 => some (w9, σ1)
