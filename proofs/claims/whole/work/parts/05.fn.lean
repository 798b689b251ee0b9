/-! by wip/whole/gen.py: pure functions of the methods (what each computes) -/
def fn_J6_bitCount (p1 : Int32) : Option (Int32) :=
  letb ((p1 - ((p1.toUInt32 >>> ((1 : Int32).toUInt32 &&& Int32.toUInt32 31)).toInt32 &&& 1431655765))) fun (v1 : Int32) =>
  letb (((v1 &&& 858993459) + ((v1.toUInt32 >>> ((2 : Int32).toUInt32 &&& Int32.toUInt32 31)).toInt32 &&& 858993459))) fun (v2 : Int32) =>
  letb (((v2 + (v2.toUInt32 >>> ((4 : Int32).toUInt32 &&& Int32.toUInt32 31)).toInt32) &&& 252645135)) fun (v3 : Int32) =>
  letb ((v3 + (v3.toUInt32 >>> ((8 : Int32).toUInt32 &&& Int32.toUInt32 31)).toInt32)) fun (v4 : Int32) =>
  letb ((v4 + (v4.toUInt32 >>> ((16 : Int32).toUInt32 &&& Int32.toUInt32 31)).toInt32)) fun (v5 : Int32) =>
  some ((v5 &&& 63))

def fn_X3_has (σ : SX) (p1 : Int32) (p2 : Int32) : Option (Int32) :=
  if ((p1 >>> (p2 &&& 31)) &&& 1) = 0 then
  (zr 0)
  else
  (zr 1)

def fn_X2_all (σ : SX)  : Option (Int32) :=
  some (((1 <<< ((σ.1 0) &&& 31)) - 1))

def fn_X2_end (σ : SX) (p1 : Int32) (p2 : Int32) : Option (Int32) :=
  (arow p2).bind fun (r1 : Nat) =>
  (ag σ (13 + r1) 12 p1).bind fun (v2 : Int32) =>
  some v2

def fn_X2_beginning (σ : SX) (p1 : Int32) : Option (Int32) :=
  (ag σ 5 6 p1).bind fun (v1 : Int32) =>
  some v1

def fn_X2_setEnd (σ : SX) (p1 : Int32) (p2 : Int32) (p3 : Int32) : Option (SX) :=
  (arow p2).bind fun (r1 : Nat) =>
  (as_ σ (13 + r1) 12 p1 p3).bind fun (σ2 : SX) =>
  letb ((1 <<< (p1 &&& 31))) fun (v3 : Int32) =>
  letb (fun (z2_47 : Int32) => (as_ σ2 5 6 p2 z2_47).bind fun (σ4 : SX) =>
  some σ4) fun (K47 : Int32 → Option (SX)) =>
  if ¬ p3 = (-1) then
  ((ag σ2 5 6 p2).bind fun (v5 : Int32) =>
  K47 ((v5 ||| v3)))
  else
  ((ag σ2 5 6 p2).bind fun (v6 : Int32) =>
  K47 ((v6 &&& (v3 ^^^ (-1)))))

def bd_X2_beginsOfStepsTo_5 (σ : SX) (p1 : Int32) (p2 : Int32) (rec5 : Int32 → Int32 → Option (Int32)) (x3_5 : Int32) (x4_5 : Int32) : Option (Int32) :=
  if (σ.1 0) ≤ x4_5 then
  (some x3_5)
  else
  ((arow p2).bind fun (r3 : Nat) =>
  (ag σ (13 + r3) 12 x4_5).bind fun (v4 : Int32) =>
  letb (fun (y3_34 : Int32) => letb (x4_5 + 1) fun (v5 : Int32) =>
  rec5 y3_34 v5) fun (K34 : Int32 → Option (Int32)) =>
  if ¬ v4 = p1 then
  (K34 x3_5)
  else
  (letb ((x3_5 ||| (1 <<< (x4_5 &&& 31)))) fun (v6 : Int32) =>
  K34 v6))

def fn_X2_beginsOfStepsTo (σ : SX) (p1 : Int32) (p2 : Int32) : Option (Int32) :=
  letb (0) fun (v1 : Int32) =>
  letb (0) fun (v2 : Int32) =>
  loopF FU (bd_X2_beginsOfStepsTo_5 σ p1 p2) (fun _ _ => none) v1 v2

def bd_X2_learnHalf_30 (p3 : Nat) (rec3 : Int32 → SX → Option (SX)) (x4_3 : Int32) (v3 : Int32) (v4 : Int32) (rec30 : Int32 → SX → Option (SX)) (x7_30 : Int32) (σ_30 : SX) : Option (SX) :=
  if v4 ≤ x7_30 then
  (letb (x4_3 + 1) fun (v6 : Int32) =>
  rec3 v6 σ_30)
  else
  ((ag σ_30 p3 64 x7_30).bind fun (v7 : Int32) =>
  (as_ σ_30 p3 64 ((v4 ||| x7_30)) ((v7 ||| v3))).bind fun (σ8 : SX) =>
  letb (x7_30 + 1) fun (v9 : Int32) =>
  rec30 v9 σ8)

def bd_X2_learnHalf_3 (p1 : Int32) (p2 : Int32) (p3 : Nat) (rec3 : Int32 → SX → Option (SX)) (x4_3 : Int32) (σ_3 : SX) : Option (SX) :=
  if 6 ≤ x4_3 then
  (some σ_3)
  else
  ((fn_X2_beginsOfStepsTo σ_3 ((p2 + x4_3)) p1).bind fun (v2 : Int32) =>
  letb (v2) fun (v3 : Int32) =>
  letb ((1 <<< (x4_3 &&& 31))) fun (v4 : Int32) =>
  letb (0) fun (v5 : Int32) =>
  loopF FU (bd_X2_learnHalf_30 p3 rec3 x4_3 v3 v4) (fun _ _ => none) v5 σ_3)

def fn_X2_learnHalf (σ : SX) (p1 : Int32) (p2 : Int32) (p3 : Nat) : Option (SX) :=
  letb (0) fun (v1 : Int32) =>
  loopF FU (bd_X2_learnHalf_3 p1 p2 p3) (fun _ _ => none) v1 σ

def fn_X2_learnSources (σ : SX) (p1 : Int32) : Option (SX) :=
  (arow p1).bind fun (r1 : Nat) =>
  (fn_X2_learnHalf σ p1 0 (19 + r1)).bind fun (σ2 : SX) =>
  (arow p1).bind fun (r3 : Nat) =>
  (fn_X2_learnHalf σ2 p1 6 (25 + r3)).bind fun (σ4 : SX) =>
  some σ4

def fn_X2_put (σ : SX) (p1 : Int32) (p2 : Int32) (p3 : Int32) : Option (SX) :=
  (fn_X2_setEnd σ p1 p2 p3).bind fun (σ1 : SX) =>
  (fn_X2_learnSources σ1 p2).bind fun (σ2 : SX) =>
  some σ2

def bd_X2_move_2 (p1 : Int32) (p2 : Int32) (rec2 : Int32 → SX → Option (SX)) (x3_2 : Int32) (σ_2 : SX) : Option (SX) :=
  if (σ_2.1 0) ≤ x3_2 then
  ((fn_X2_learnSources σ_2 p1).bind fun (σ2 : SX) =>
  (fn_X2_learnSources σ2 p2).bind fun (σ3 : SX) =>
  some σ3)
  else
  ((arow p1).bind fun (r4 : Nat) =>
  (ag σ_2 (13 + r4) 12 x3_2).bind fun (v5 : Int32) =>
  letb (v5) fun (v6 : Int32) =>
  letb (fun (τ_41 : SX) => letb (x3_2 + 1) fun (v7 : Int32) =>
  rec2 v7 τ_41) fun (K41 : SX → Option (SX)) =>
  if v6 = (-1) then
  (K41 σ_2)
  else
  ((fn_X2_setEnd σ_2 x3_2 p2 v6).bind fun (σ8 : SX) =>
  (fn_X2_setEnd σ8 x3_2 p1 ((-1))).bind fun (σ9 : SX) =>
  K41 σ9))

def fn_X2_move (σ : SX) (p1 : Int32) (p2 : Int32) : Option (SX) :=
  letb (0) fun (v1 : Int32) =>
  loopF FU (bd_X2_move_2 p1 p2) (fun _ _ => none) v1 σ

def fn_X2_way (σ : SX) (p1 : Int32) (p2 : Int32) : Option (Int32) :=
  (ag σ 5 6 p2).bind fun (v1 : Int32) =>
  letb (v1) fun (v2 : Int32) =>
  letb ((v2 &&& p1)) fun (v3 : Int32) =>
  (arow p2).bind fun (r4 : Nat) =>
  (ag σ (19 + r4) 64 ((p1 &&& 63))).bind fun (v5 : Int32) =>
  (arow p2).bind fun (r6 : Nat) =>
  (ag σ (25 + r6) 64 (((p1 >>> (6 &&& 31)) &&& 63))).bind fun (v7 : Int32) =>
  letb ((v5 ||| v7)) fun (v8 : Int32) =>
  if ¬ v3 = v8 then
  (letb (fun (_u : Unit) => letb (fun (_u : Unit) => some 3) fun (K75 : Unit → Option (Int32)) =>
  if ¬ v8 = 0 then
  (K75 ())
  else
  (if ¬ v3 = v2 then
  (K75 ())
  else
  (some 2))) fun (K62 : Unit → Option (Int32)) =>
  if ¬ v3 = 0 then
  (K62 ())
  else
  (if ¬ v8 = v2 then
  (K62 ())
  else
  (some 1)))
  else
  (some 0)

def bd_X2_firstMixed_2 (σ : SX) (p1 : Int32) (rec2 : Int32 → Option (Int32)) (x2_2 : Int32) : Option (Int32) :=
  if 6 ≤ x2_2 then
  (some ((-1)))
  else
  ((fn_X2_way σ p1 x2_2).bind fun (v2 : Int32) =>
  if ¬ v2 = 3 then
  (letb (x2_2 + 1) fun (v3 : Int32) =>
  rec2 v3)
  else
  (some x2_2))

def fn_X2_firstMixed (σ : SX) (p1 : Int32) : Option (Int32) :=
  letb (0) fun (v1 : Int32) =>
  loopF FU (bd_X2_firstMixed_2 σ p1) (fun _ => none) v1

def bd_X2_endsOf_4 (σ : SX) (p1 : Int32) (rec4 : Int32 → Int32 → Option (Int32)) (x2_4 : Int32) (x3_4 : Int32) : Option (Int32) :=
  if (σ.1 0) ≤ x3_4 then
  (some x2_4)
  else
  ((arow p1).bind fun (r3 : Nat) =>
  (ag σ (13 + r3) 12 x3_4).bind fun (v4 : Int32) =>
  letb (v4) fun (v5 : Int32) =>
  letb (fun (y2_35 : Int32) => letb (x3_4 + 1) fun (v6 : Int32) =>
  rec4 y2_35 v6) fun (K35 : Int32 → Option (Int32)) =>
  if v5 = (-1) then
  (K35 x2_4)
  else
  (letb ((x2_4 ||| (1 <<< (v5 &&& 31)))) fun (v7 : Int32) =>
  K35 v7))

def fn_X2_endsOf (σ : SX) (p1 : Int32) : Option (Int32) :=
  letb (0) fun (v1 : Int32) =>
  letb (0) fun (v2 : Int32) =>
  loopF FU (bd_X2_endsOf_4 σ p1) (fun _ _ => none) v1 v2

def fn_X2_growth (σ : SX) (p1 : Int32) (p2 : Int32) : Option (Int32) :=
  (ag σ 5 6 p2).bind fun (v1 : Int32) =>
  letb (v1) fun (v2 : Int32) =>
  (fn_X2_endsOf σ p2).bind fun (v3 : Int32) =>
  letb (v3) fun (v4 : Int32) =>
  letb (fun (_u : Unit) => if (v4 &&& (p1 ^^^ (-1))) = 0 then
  (some v2)
  else
  (some v4)) fun (K29 : Unit → Option (Int32)) =>
  if (v2 &&& p1) = 0 then
  (K29 ())
  else
  (if ¬ (v4 &&& p1) = 0 then
  (K29 ())
  else
  (some v2))

def bd_X2_grown_4 (σ : SX) (rec4 : Int32 → Int32 → Option (Int32)) (x2_4 : Int32) (x3_4 : Int32) : Option (Int32) :=
  if 12 ≤ x3_4 then
  (some x2_4)
  else
  ((fn_X2_firstMixed σ x2_4).bind fun (v3 : Int32) =>
  letb (v3) fun (v4 : Int32) =>
  if ¬ v4 = (-1) then
  ((fn_X2_growth σ x2_4 v4).bind fun (v5 : Int32) =>
  letb ((x2_4 ||| v5)) fun (v6 : Int32) =>
  letb (x3_4 + 1) fun (v7 : Int32) =>
  rec4 v6 v7)
  else
  (some x2_4))

def fn_X2_grown (σ : SX) (p1 : Int32) : Option (Int32) :=
  letb (p1) fun (v1 : Int32) =>
  letb (0) fun (v2 : Int32) =>
  loopF FU (bd_X2_grown_4 σ) (fun _ _ => none) v1 v2

def bd_X2_nextStates_13 (σ : SX) (p1 : Int32) (rec4 : Int32 → Int32 → Option (Int32)) (x3_4 : Int32) (rec13 : Int32 → Int32 → Option (Int32)) (x2_13 : Int32) (x4_13 : Int32) : Option (Int32) :=
  if (σ.1 0) ≤ x4_13 then
  (letb (x3_4 + 1) fun (v4 : Int32) =>
  rec4 x2_13 v4)
  else
  ((arow x3_4).bind fun (r5 : Nat) =>
  (ag σ (13 + r5) 12 x4_13).bind fun (v6 : Int32) =>
  letb (v6) fun (v7 : Int32) =>
  letb (fun (y2_55 : Int32) => letb (x4_13 + 1) fun (v8 : Int32) =>
  rec13 y2_55 v8) fun (K55 : Int32 → Option (Int32)) =>
  if v7 = (-1) then
  (K55 x2_13)
  else
  ((fn_X3_has σ p1 x4_13).bind fun (v9 : Int32) =>
  if v9 = 0 then
  (K55 x2_13)
  else
  (letb ((x2_13 ||| (1 <<< (v7 &&& 31)))) fun (v10 : Int32) =>
  K55 v10)))

def bd_X2_nextStates_4 (σ : SX) (p1 : Int32) (rec4 : Int32 → Int32 → Option (Int32)) (x2_4 : Int32) (x3_4 : Int32) : Option (Int32) :=
  if 6 ≤ x3_4 then
  (some x2_4)
  else
  (letb (0) fun (v3 : Int32) =>
  loopF FU (bd_X2_nextStates_13 σ p1 rec4 x3_4) (fun _ _ => none) x2_4 v3)

def fn_X2_nextStates (σ : SX) (p1 : Int32) : Option (Int32) :=
  letb (0) fun (v1 : Int32) =>
  letb (0) fun (v2 : Int32) =>
  loopF FU (bd_X2_nextStates_4 σ p1) (fun _ _ => none) v1 v2

def bd_X2_reachedStates_4 (σ : SX) (rec4 : Int32 → Int32 → Option (Int32)) (x1_4 : Int32) (x2_4 : Int32) : Option (Int32) :=
  if (σ.1 0) ≤ x2_4 then
  (some x1_4)
  else
  ((fn_X2_nextStates σ x1_4).bind fun (v3 : Int32) =>
  letb ((x1_4 ||| v3)) fun (v4 : Int32) =>
  letb (x2_4 + 1) fun (v5 : Int32) =>
  rec4 v4 v5)

def fn_X2_reachedStates (σ : SX)  : Option (Int32) :=
  letb (1) fun (v1 : Int32) =>
  letb (1) fun (v2 : Int32) =>
  loopF FU (bd_X2_reachedStates_4 σ) (fun _ _ => none) v1 v2

def bd_X2_distanceTo_4 (σ : SX) (p1 : Int32) (rec4 : Int32 → Int32 → Option (Int32)) (x2_4 : Int32) (x3_4 : Int32) : Option (Int32) :=
  if (σ.1 0) ≤ x3_4 then
  (some ((-1)))
  else
  ((fn_X3_has σ x2_4 p1).bind fun (v3 : Int32) =>
  if v3 = 0 then
  ((fn_X2_nextStates σ x2_4).bind fun (v4 : Int32) =>
  letb ((x2_4 ||| v4)) fun (v5 : Int32) =>
  letb (x3_4 + 1) fun (v6 : Int32) =>
  rec4 v5 v6)
  else
  (some x3_4))

def fn_X2_distanceTo (σ : SX) (p1 : Int32) : Option (Int32) :=
  letb (1) fun (v1 : Int32) =>
  letb (0) fun (v2 : Int32) =>
  loopF FU (bd_X2_distanceTo_4 σ p1) (fun _ _ => none) v1 v2

def fn_X2_statePairs (σ : SX)  : Option (Int32) :=
  some ((((σ.1 0) * ((σ.1 0) - 1)) / 2))

def fn_X2_stopsOf (σ : SX) (p1 : Int32) : Option (Int32) :=
  (ag σ 5 6 p1).bind fun (v1 : Int32) =>
  if ¬ v1 = 0 then
  ((fn_X2_all σ).bind fun (v2 : Int32) =>
  (ag σ 5 6 p1).bind fun (v3 : Int32) =>
  some ((v2 &&& (v3 ^^^ (-1)))))
  else
  (some 0)

def bd_X2_stopPairs_4 (σ : SX) (rec4 : Int32 → Int32 → Option (Int32)) (x1_4 : Int32) (x2_4 : Int32) : Option (Int32) :=
  if 6 ≤ x2_4 then
  (some x1_4)
  else
  ((fn_X2_stopsOf σ x2_4).bind fun (v3 : Int32) =>
  (fn_J6_bitCount v3).bind fun (v4 : Int32) =>
  letb ((x1_4 + v4)) fun (v5 : Int32) =>
  letb (x2_4 + 1) fun (v6 : Int32) =>
  rec4 v5 v6)

def fn_X2_stopPairs (σ : SX)  : Option (Int32) :=
  letb (0) fun (v1 : Int32) =>
  letb (0) fun (v2 : Int32) =>
  loopF FU (bd_X2_stopPairs_4 σ) (fun _ _ => none) v1 v2

def fn_X1_isOne (σ : SX) (p1 : Int32) : Option (Int32) :=
  letb (fun (_u : Unit) => zr 0) fun (K31 : Unit → Option (Int32)) =>
  if p1 = 0 then
  (K31 ())
  else
  ((fn_X2_all σ).bind fun (v1 : Int32) =>
  if p1 = v1 then
  (K31 ())
  else
  ((fn_X2_firstMixed σ p1).bind fun (v2 : Int32) =>
  if ¬ v2 = (-1) then
  (K31 ())
  else
  (zr 1)))

def bd_X1_search_15 (v3 : Int32) (rec15 : Int32 → SX → Option (SX)) (x2_15 : Int32) (σ_15 : SX) : Option (SX) :=
  if v3 ≤ x2_15 then
  (some σ_15)
  else
  ((fn_X2_firstMixed σ_15 x2_15).bind fun (v5 : Int32) =>
  letb (fun (τ_62 : SX) => letb (x2_15 + 1) fun (v6 : Int32) =>
  rec15 v6 τ_62) fun (K62 : SX → Option (SX)) =>
  if ¬ v5 = (-1) then
  (K62 σ_15)
  else
  (if 4094 ≤ (σ_15.1 1) then
  (K62 σ_15)
  else
  ((as_ σ_15 8 4094 ((σ_15.1 1)) x2_15).bind fun (σ7 : SX) =>
  letb (ss σ7 1 (((σ7.1 1) + 1))) fun (σ8 : SX) =>
  K62 σ8)))

def fn_X1_search (σ : SX)  : Option (SX) :=
  letb (ss σ 1 0) fun (σ1 : SX) =>
  (fn_X2_all σ1).bind fun (v2 : Int32) =>
  letb (v2) fun (v3 : Int32) =>
  letb (1) fun (v4 : Int32) =>
  loopF FU (bd_X1_search_15 v3) (fun _ _ => none) v4 σ1

def fn_X1_count (σ : SX)  : Option (Int32 × SX) :=
  letb (fun (τ_16 : SX) => some ((τ_16.1 1), τ_16)) fun (K16 : SX → Option (Int32 × SX)) =>
  if ¬ (σ.1 2) = 0 then
  (K16 σ)
  else
  ((fn_X1_search σ).bind fun (σ1 : SX) =>
  letb (ss σ1 2 1) fun (σ2 : SX) =>
  K16 σ2)

def fn_X1_at (σ : SX) (p1 : Int32) : Option (Int32) :=
  (ag σ 8 4094 p1).bind fun (v1 : Int32) =>
  some v1

def bd_X1_hasNoPart_2 (σ : SX) (p1 : Int32) (rec2 : Int32 → Option (Int32)) (x2_2 : Int32) : Option (Int32) :=
  if p1 ≤ x2_2 then
  (zr 1)
  else
  ((ag σ 8 4094 x2_2).bind fun (v2 : Int32) =>
  (ag σ 8 4094 p1).bind fun (v3 : Int32) =>
  if ¬ (v2 &&& (v3 ^^^ (-1))) = 0 then
  (letb (x2_2 + 1) fun (v4 : Int32) =>
  rec2 v4)
  else
  (zr 0))

def fn_X1_hasNoPart (σ : SX) (p1 : Int32) : Option (Int32) :=
  letb (0) fun (v1 : Int32) =>
  loopF FU (bd_X1_hasNoPart_2 σ p1) (fun _ => none) v1

def bd_X1_firstApart_8 (p1 : Int32) (p2 : Int32) (σ1 : SX) (v3 : Int32) (rec8 : Int32 → Option (Int32 × SX)) (x4_8 : Int32) : Option (Int32 × SX) :=
  if v3 ≤ x4_8 then
  (some ((-1), σ1))
  else
  ((ag σ1 8 4094 x4_8).bind fun (v5 : Int32) =>
  (fn_X3_has σ1 v5 p1).bind fun (v6 : Int32) =>
  (ag σ1 8 4094 x4_8).bind fun (v7 : Int32) =>
  (fn_X3_has σ1 v7 p2).bind fun (v8 : Int32) =>
  if v6 = v8 then
  (letb (x4_8 + 1) fun (v9 : Int32) =>
  rec8 v9)
  else
  (some (x4_8, σ1)))

def fn_X1_firstApart (σ : SX) (p1 : Int32) (p2 : Int32) : Option (Int32 × SX) :=
  bind2 (fn_X1_count σ) fun (v2 : Int32) (σ1 : SX) =>
  letb (v2) fun (v3 : Int32) =>
  letb (0) fun (v4 : Int32) =>
  loopF FU (bd_X1_firstApart_8 p1 p2 σ1 v3) (fun _ => none) v4

def fn_X1_prevents (σ : SX) (p1 : Int32) (p2 : Int32) (p3 : Int32) : Option (Int32) :=
  (fn_X2_way σ p1 p3).bind fun (v1 : Int32) =>
  letb (v1) fun (v2 : Int32) =>
  (fn_X3_has σ p1 p2).bind fun (v3 : Int32) =>
  if v3 = 0 then
  (if ¬ v2 = 2 then
  (zr 0)
  else
  (zr 1))
  else
  (if ¬ v2 = 1 then
  (zr 0)
  else
  (zr 1))

def bd_X1_firstPreventing_8 (p1 : Int32) (p2 : Int32) (σ1 : SX) (v3 : Int32) (rec8 : Int32 → Option (Int32 × SX)) (x4_8 : Int32) : Option (Int32 × SX) :=
  if v3 ≤ x4_8 then
  (some ((-1), σ1))
  else
  ((ag σ1 8 4094 x4_8).bind fun (v5 : Int32) =>
  (fn_X1_prevents σ1 v5 p1 p2).bind fun (v6 : Int32) =>
  if v6 = 0 then
  (letb (x4_8 + 1) fun (v7 : Int32) =>
  rec8 v7)
  else
  (some (x4_8, σ1)))

def fn_X1_firstPreventing (σ : SX) (p1 : Int32) (p2 : Int32) : Option (Int32 × SX) :=
  bind2 (fn_X1_count σ) fun (v2 : Int32) (σ1 : SX) =>
  letb (v2) fun (v3 : Int32) =>
  letb (0) fun (v4 : Int32) =>
  loopF FU (bd_X1_firstPreventing_8 p1 p2 σ1 v3) (fun _ => none) v4

def bd_X1_pairsNotApart_19 (rec4 : Int32 → Int32 → SX → Option (Int32 × SX)) (x2_4 : Int32) (rec19 : Int32 → Int32 → SX → Option (Int32 × SX)) (x1_19 : Int32) (x3_19 : Int32) (σ_19 : SX) : Option (Int32 × SX) :=
  if (σ_19.1 0) ≤ x3_19 then
  (letb (x2_4 + 1) fun (v4 : Int32) =>
  rec4 x1_19 v4 σ_19)
  else
  (bind2 (fn_X1_firstApart σ_19 x2_4 x3_19) fun (v6 : Int32) (σ5 : SX) =>
  letb (fun (y1_43 : Int32) => letb (x3_19 + 1) fun (v7 : Int32) =>
  rec19 y1_43 v7 σ5) fun (K43 : Int32 → Option (Int32 × SX)) =>
  if ¬ v6 = (-1) then
  (K43 x1_19)
  else
  (letb (x1_19 + 1) fun (v8 : Int32) =>
  K43 v8))

def bd_X1_pairsNotApart_4 (rec4 : Int32 → Int32 → SX → Option (Int32 × SX)) (x1_4 : Int32) (x2_4 : Int32) (σ_4 : SX) : Option (Int32 × SX) :=
  if (σ_4.1 0) ≤ x2_4 then
  (some (x1_4, σ_4))
  else
  (letb ((x2_4 + 1)) fun (v3 : Int32) =>
  loopF FU (bd_X1_pairsNotApart_19 rec4 x2_4) (fun _ _ _ => none) x1_4 v3 σ_4)

def fn_X1_pairsNotApart (σ : SX)  : Option (Int32 × SX) :=
  letb (0) fun (v1 : Int32) =>
  letb (0) fun (v2 : Int32) =>
  loopF FU (bd_X1_pairsNotApart_4) (fun _ _ _ => none) v1 v2 σ

def bd_X1_preventedIn_10 (p1 : Int32) (σ2 : SX) (v4 : Int32) (rec10 : Int32 → Int32 → Option (Int32 × SX)) (x2_10 : Int32) (x4_10 : Int32) : Option (Int32 × SX) :=
  if v4 ≤ x4_10 then
  (some (x2_10, σ2))
  else
  ((ag σ2 8 4094 x4_10).bind fun (v6 : Int32) =>
  (fn_X2_way σ2 v6 p1).bind fun (v7 : Int32) =>
  letb (v7) fun (v8 : Int32) =>
  letb (fun (y2_70 : Int32) => letb (x4_10 + 1) fun (v9 : Int32) =>
  rec10 y2_70 v9) fun (K70 : Int32 → Option (Int32 × SX)) =>
  if ¬ v8 = 2 then
  (if ¬ v8 = 1 then
  (K70 x2_10)
  else
  ((ag σ2 8 4094 x4_10).bind fun (v10 : Int32) =>
  letb ((x2_10 ||| v10)) fun (v11 : Int32) =>
  K70 v11))
  else
  ((ag σ2 8 4094 x4_10).bind fun (v12 : Int32) =>
  letb ((x2_10 ||| (v12 ^^^ (-1)))) fun (v13 : Int32) =>
  K70 v13))

def fn_X1_preventedIn (σ : SX) (p1 : Int32) : Option (Int32 × SX) :=
  letb (0) fun (v1 : Int32) =>
  bind2 (fn_X1_count σ) fun (v3 : Int32) (σ2 : SX) =>
  letb (v3) fun (v4 : Int32) =>
  letb (0) fun (v5 : Int32) =>
  loopF FU (bd_X1_preventedIn_10 p1 σ2 v4) (fun _ _ => none) v1 v5

def bd_X1_pairsNotPrevented_4 (rec4 : Int32 → Int32 → SX → Option (Int32 × SX)) (x1_4 : Int32) (x2_4 : Int32) (σ_4 : SX) : Option (Int32 × SX) :=
  if 6 ≤ x2_4 then
  (some (x1_4, σ_4))
  else
  ((fn_X2_stopsOf σ_4 x2_4).bind fun (v3 : Int32) =>
  bind2 (fn_X1_preventedIn σ_4 x2_4) fun (v5 : Int32) (σ4 : SX) =>
  (fn_J6_bitCount ((v3 &&& (v5 ^^^ (-1))))).bind fun (v6 : Int32) =>
  letb ((x1_4 + v6)) fun (v7 : Int32) =>
  letb (x2_4 + 1) fun (v8 : Int32) =>
  rec4 v7 v8 σ4)

def fn_X1_pairsNotPrevented (σ : SX)  : Option (Int32 × SX) :=
  letb (0) fun (v1 : Int32) =>
  letb (0) fun (v2 : Int32) =>
  loopF FU (bd_X1_pairsNotPrevented_4) (fun _ _ _ => none) v1 v2 σ

def bd_X0_holdsPlace_2 (σ : SX) (p1 : Int32) (rec2 : Int32 → Option (Int32)) (x2_2 : Int32) : Option (Int32) :=
  if (σ.1 4) ≤ x2_2 then
  (zr 0)
  else
  ((ag σ 9 30 x2_2).bind fun (v2 : Int32) =>
  if ¬ (v2 &&& (p1 ^^^ (-1))) = 0 then
  (letb (x2_2 + 1) fun (v3 : Int32) =>
  rec2 v3)
  else
  (zr 1))

def fn_X0_holdsPlace (σ : SX) (p1 : Int32) : Option (Int32) :=
  letb (0) fun (v1 : Int32) =>
  loopF FU (bd_X0_holdsPlace_2 σ p1) (fun _ => none) v1

def bd_X0_choosePlaces_15 (v4 : Int32) (rec15 : Int32 → SX → Option (SX)) (x2_15 : Int32) (σ_15 : SX) : Option (SX) :=
  if v4 ≤ x2_15 then
  (some σ_15)
  else
  (if 30 ≤ (σ_15.1 4) then
  (some σ_15)
  else
  ((fn_X1_at σ_15 x2_15).bind fun (v6 : Int32) =>
  letb (v6) fun (v7 : Int32) =>
  (fn_X0_holdsPlace σ_15 v7).bind fun (v8 : Int32) =>
  letb (fun (τ_66 : SX) => letb (x2_15 + 1) fun (v9 : Int32) =>
  rec15 v9 τ_66) fun (K66 : SX → Option (SX)) =>
  if ¬ v8 = 0 then
  (K66 σ_15)
  else
  ((as_ σ_15 9 30 ((σ_15.1 4)) v7).bind fun (σ10 : SX) =>
  letb (ss σ10 4 (((σ10.1 4) + 1))) fun (σ11 : SX) =>
  K66 σ11)))

def fn_X0_choosePlaces (σ : SX)  : Option (SX) :=
  letb (ss σ 4 0) fun (σ1 : SX) =>
  bind2 (fn_X1_count σ1) fun (v3 : Int32) (σ2 : SX) =>
  letb (v3) fun (v4 : Int32) =>
  letb (0) fun (v5 : Int32) =>
  loopF FU (bd_X0_choosePlaces_15 v4) (fun _ _ => none) v5 σ2

def bd_X0_placesCrossed_5 (σ : SX) (p1 : Int32) (p2 : Int32) (rec5 : Int32 → Int32 → Option (Int32)) (x3_5 : Int32) (x4_5 : Int32) : Option (Int32) :=
  if (σ.1 4) ≤ x4_5 then
  (some x3_5)
  else
  ((ag σ 9 30 x4_5).bind fun (v3 : Int32) =>
  (fn_X2_way σ v3 p1).bind fun (v4 : Int32) =>
  letb (fun (y3_40 : Int32) => letb (x4_5 + 1) fun (v5 : Int32) =>
  rec5 y3_40 v5) fun (K40 : Int32 → Option (Int32)) =>
  if ¬ v4 = p2 then
  (K40 x3_5)
  else
  (letb ((x3_5 ||| (1 <<< (x4_5 &&& 31)))) fun (v6 : Int32) =>
  K40 v6))

def fn_X0_placesCrossed (σ : SX) (p1 : Int32) (p2 : Int32) : Option (Int32) :=
  letb (0) fun (v1 : Int32) =>
  letb (0) fun (v2 : Int32) =>
  loopF FU (bd_X0_placesCrossed_5 σ p1 p2) (fun _ _ => none) v1 v2

def bd_X0_placesWith_4 (σ : SX) (p1 : Int32) (rec4 : Int32 → Int32 → Option (Int32)) (x2_4 : Int32) (x3_4 : Int32) : Option (Int32) :=
  if (σ.1 4) ≤ x3_4 then
  (some x2_4)
  else
  ((ag σ 9 30 x3_4).bind fun (v3 : Int32) =>
  (fn_X3_has σ v3 p1).bind fun (v4 : Int32) =>
  letb (fun (y2_31 : Int32) => letb (x3_4 + 1) fun (v5 : Int32) =>
  rec4 y2_31 v5) fun (K31 : Int32 → Option (Int32)) =>
  if v4 = 0 then
  (K31 x2_4)
  else
  (letb ((x2_4 ||| (1 <<< (x3_4 &&& 31)))) fun (v6 : Int32) =>
  K31 v6))

def fn_X0_placesWith (σ : SX) (p1 : Int32) : Option (Int32) :=
  letb (0) fun (v1 : Int32) =>
  letb (0) fun (v2 : Int32) =>
  loopF FU (bd_X0_placesWith_4 σ p1) (fun _ _ => none) v1 v2

def bd_X0_make_6 (rec6 : Int32 → SX → Option (SX)) (x1_6 : Int32) (σ_6 : SX) : Option (SX) :=
  if 6 ≤ x1_6 then
  ((fn_X0_placesWith σ_6 0).bind fun (v3 : Int32) =>
  letb (ss σ_6 5 v3) fun (σ4 : SX) =>
  letb (ss σ4 7 0) fun (σ5 : SX) =>
  letb (ss σ5 3 1) fun (σ6 : SX) =>
  some σ6)
  else
  ((fn_X0_placesCrossed σ_6 x1_6 2).bind fun (v7 : Int32) =>
  (as_ σ_6 10 6 x1_6 v7).bind fun (σ8 : SX) =>
  (fn_X0_placesCrossed σ8 x1_6 1).bind fun (v9 : Int32) =>
  (as_ σ8 11 6 x1_6 v9).bind fun (σ10 : SX) =>
  letb (x1_6 + 1) fun (v11 : Int32) =>
  rec6 v11 σ10)

def fn_X0_make (σ : SX)  : Option (SX) :=
  (fn_X0_choosePlaces σ).bind fun (σ1 : SX) =>
  letb (0) fun (v2 : Int32) =>
  loopF FU (bd_X0_make_6) (fun _ _ => none) v2 σ1

def fn_X0_regionOf (σ : SX) (p1 : Int32) : Option (Int32) :=
  (ag σ 9 30 p1).bind fun (v1 : Int32) =>
  some v1

def fn_X0_takenBy (σ : SX) (p1 : Int32) : Option (Int32) :=
  (ag σ 10 6 p1).bind fun (v1 : Int32) =>
  some v1

def fn_X0_givenBy (σ : SX) (p1 : Int32) : Option (Int32) :=
  (ag σ 11 6 p1).bind fun (v1 : Int32) =>
  some v1

def fn_X0_canFire (σ : SX) (p1 : Int32) (p2 : Int32) : Option (Int32) :=
  (fn_X2_beginning σ p1).bind fun (v1 : Int32) =>
  letb (fun (_u : Unit) => zr 0) fun (K43 : Unit → Option (Int32)) =>
  if v1 = 0 then
  (K43 ())
  else
  ((ag σ 10 6 p1).bind fun (v2 : Int32) =>
  (ag σ 10 6 p1).bind fun (v3 : Int32) =>
  if ¬ (p2 &&& v2) = v3 then
  (K43 ())
  else
  ((ag σ 11 6 p1).bind fun (v4 : Int32) =>
  if ¬ (p2 &&& v4) = 0 then
  (K43 ())
  else
  (zr 1)))

def fn_X0_behind (σ : SX) (p1 : Int32) (p2 : Int32) : Option (Int32) :=
  (ag σ 10 6 p1).bind fun (v1 : Int32) =>
  (ag σ 11 6 p1).bind fun (v2 : Int32) =>
  some (((p2 &&& (v1 ^^^ (-1))) ||| v2))

def bd_X0_keepNew_13 (σ : SX) (p1 : Int32) (rec13 : Int32 → Option (SX)) (x2_13 : Int32) : Option (SX) :=
  if (σ.1 7) ≤ x2_13 then
  ((as_ σ 12 200 ((σ.1 7)) p1).bind fun (σ2 : SX) =>
  letb (ss σ2 7 (((σ2.1 7) + 1))) fun (σ3 : SX) =>
  some σ3)
  else
  ((ag σ 12 200 x2_13).bind fun (v4 : Int32) =>
  if ¬ v4 = p1 then
  (letb (x2_13 + 1) fun (v5 : Int32) =>
  rec13 v5)
  else
  (some σ))

def fn_X0_keepNew (σ : SX) (p1 : Int32) : Option (SX) :=
  if (σ.1 7) < 200 then
  (letb (0) fun (v1 : Int32) =>
  loopF FU (bd_X0_keepNew_13 σ p1) (fun _ => none) v1)
  else
  (some σ)

def bd_X0_findMarkings_34 (rec17 : Int32 → SX → Option (SX)) (x1_17 : Int32) (rec34 : Int32 → SX → Option (SX)) (x2_34 : Int32) (σ_34 : SX) : Option (SX) :=
  if 6 ≤ x2_34 then
  (letb (x1_17 + 1) fun (v5 : Int32) =>
  rec17 v5 σ_34)
  else
  ((ag σ_34 12 200 x1_17).bind fun (v6 : Int32) =>
  (fn_X0_canFire σ_34 x2_34 v6).bind fun (v7 : Int32) =>
  letb (fun (τ_69 : SX) => letb (x2_34 + 1) fun (v8 : Int32) =>
  rec34 v8 τ_69) fun (K69 : SX → Option (SX)) =>
  if v7 = 0 then
  (K69 σ_34)
  else
  ((ag σ_34 12 200 x1_17).bind fun (v9 : Int32) =>
  (fn_X0_behind σ_34 x2_34 v9).bind fun (v10 : Int32) =>
  (fn_X0_keepNew σ_34 v10).bind fun (σ11 : SX) =>
  K69 σ11))

def bd_X0_findMarkings_17 (rec17 : Int32 → SX → Option (SX)) (x1_17 : Int32) (σ_17 : SX) : Option (SX) :=
  if 200 ≤ x1_17 then
  (some σ_17)
  else
  (if (σ_17.1 7) ≤ x1_17 then
  (some σ_17)
  else
  (letb (0) fun (v4 : Int32) =>
  loopF FU (bd_X0_findMarkings_34 rec17 x1_17) (fun _ _ => none) v4 σ_17))

def fn_X0_findMarkings (σ : SX)  : Option (SX) :=
  (as_ σ 12 200 0 ((σ.1 5))).bind fun (σ1 : SX) =>
  letb (ss σ1 7 1) fun (σ2 : SX) =>
  letb (0) fun (v3 : Int32) =>
  loopF FU (bd_X0_findMarkings_17) (fun _ _ => none) v3 σ2

def fn_X0_markingsFound (σ : SX)  : Option (Int32 × SX) :=
  letb (fun (τ_11 : SX) => some ((τ_11.1 7), τ_11)) fun (K11 : SX → Option (Int32 × SX)) =>
  if ¬ (σ.1 7) = 0 then
  (K11 σ)
  else
  ((fn_X0_findMarkings σ).bind fun (σ1 : SX) =>
  K11 σ1)

def fn_X0_markingFound (σ : SX) (p1 : Int32) : Option (Int32) :=
  (ag σ 12 200 p1).bind fun (v1 : Int32) =>
  some v1

def bd_X0_isMatched_60 (σ : SX) (p1 : Int32) (p2 : Int32) (v2 : Int32) (rec60 : Int32 → Option (Int32)) (x4_60 : Int32) : Option (Int32) :=
  if p1 ≤ x4_60 then
  (zr 1)
  else
  ((fn_X3_has σ p2 x4_60).bind fun (v5 : Int32) =>
  letb (fun (_u : Unit) => letb (x4_60 + 1) fun (v6 : Int32) =>
  rec60 v6) fun (K87 : Unit → Option (Int32)) =>
  if v5 = 0 then
  (K87 ())
  else
  ((fn_X0_placesWith σ x4_60).bind fun (v7 : Int32) =>
  if ¬ v7 = v2 then
  (K87 ())
  else
  (zr 0)))

def bd_X0_isMatched_9 (σ : SX) (p1 : Int32) (p2 : Int32) (v2 : Int32) (rec9 : Int32 → Option (Int32)) (x4_9 : Int32) : Option (Int32) :=
  if 6 ≤ x4_9 then
  (letb (0) fun (v4 : Int32) =>
  loopF FU (bd_X0_isMatched_60 σ p1 p2 v2) (fun _ => none) v4)
  else
  ((fn_X2_end σ p1 x4_9).bind fun (v8 : Int32) =>
  letb (fun (z0_35 : Int32) => letb (z0_35) fun (v9 : Int32) =>
  (fn_X0_canFire σ x4_9 v2).bind fun (v10 : Int32) =>
  if v10 = v9 then
  (letb (x4_9 + 1) fun (v11 : Int32) =>
  rec9 v11)
  else
  (zr 0)) fun (K35 : Int32 → Option (Int32)) =>
  if v8 = (-1) then
  (K35 0)
  else
  (K35 1))

def fn_X0_isMatched (σ : SX) (p1 : Int32) (p2 : Int32) : Option (Int32) :=
  (fn_X0_placesWith σ p1).bind fun (v1 : Int32) =>
  letb (v1) fun (v2 : Int32) =>
  letb (0) fun (v3 : Int32) =>
  loopF FU (bd_X0_isMatched_9 σ p1 p2 v2) (fun _ => none) v3

def bd_X0_behavesLikeSystem_10 (σ : SX) (v2 : Int32) (rec10 : Int32 → Option (Int32)) (x2_10 : Int32) : Option (Int32) :=
  if (σ.1 0) ≤ x2_10 then
  (zr 1)
  else
  ((fn_X3_has σ v2 x2_10).bind fun (v4 : Int32) =>
  letb (fun (_u : Unit) => letb (x2_10 + 1) fun (v5 : Int32) =>
  rec10 v5) fun (K40 : Unit → Option (Int32)) =>
  if v4 = 0 then
  (K40 ())
  else
  ((fn_X0_isMatched σ x2_10 v2).bind fun (v6 : Int32) =>
  if ¬ v6 = 0 then
  (K40 ())
  else
  (zr 0)))

def fn_X0_behavesLikeSystem (σ : SX)  : Option (Int32) :=
  (fn_X2_reachedStates σ).bind fun (v1 : Int32) =>
  letb (v1) fun (v2 : Int32) =>
  letb (0) fun (v3 : Int32) =>
  loopF FU (bd_X0_behavesLikeSystem_10 σ v2) (fun _ => none) v3

def fn_X3_changed (σ : SX)  : Option (SX) :=
  letb (ss σ 2 0) fun (σ1 : SX) =>
  letb (ss σ1 3 0) fun (σ2 : SX) =>
  some σ2

def fn_X3_mixed (σ : SX) (p1 : Int64) (p2 : Int32) : Option (Int64) :=
  some (((p1 * (31 : Int64)) + p2.toInt64))

def fn_X3_reached (σ : SX)  : Option (Int32) :=
  (fn_X2_reachedStates σ).bind fun (v1 : Int32) =>
  some v1

def fn_X3_regionCount (σ : SX)  : Option (Int32 × SX) :=
  bind2 (fn_X1_count σ) fun (v2 : Int32) (σ1 : SX) =>
  some (v2, σ1)

def fn_X3_lumps (σ : SX)  : Option (Int32 × SX) :=
  bind2 (fn_X1_pairsNotApart σ) fun (v2 : Int32) (σ1 : SX) =>
  some (v2, σ1)

def fn_X3_leaks (σ : SX)  : Option (Int32 × SX) :=
  bind2 (fn_X1_pairsNotPrevented σ) fun (v2 : Int32) (σ1 : SX) =>
  some (v2, σ1)

def fn_X3_makeNet (σ : SX)  : Option (Int32 × SX) :=
  letb (fun (τ_17 : SX) => letb (ss τ_17 6 ((τ_17.1 5))) fun (σ1 : SX) =>
  some ((σ1.1 4), σ1)) fun (K17 : SX → Option (Int32 × SX)) =>
  if ¬ (σ.1 3) = 0 then
  (K17 σ)
  else
  ((fn_X0_make σ).bind fun (σ2 : SX) =>
  K17 σ2)

def fn_X3_hasNet (σ : SX)  : Option (Int32) :=
  zr ((σ.1 3))

def fn_X3_stateCount (σ : SX)  : Option (Int32) :=
  some ((σ.1 0))

def bd_X3_digest_81 (σ4 : SX) (v6 : Int32) (rec81 : Int64 → Int32 → Option (Int64 × SX)) (x1_81 : Int64) (x4_81 : Int32) : Option (Int64 × SX) :=
  if v6 ≤ x4_81 then
  (letb (fun (y1_141 : Int64) => some (y1_141, σ4)) fun (K141 : Int64 → Option (Int64 × SX)) =>
  if (σ4.1 3) = 0 then
  (K141 x1_81)
  else
  ((fn_X3_mixed σ4 x1_81 ((σ4.1 4))).bind fun (v10 : Int64) =>
  letb (v10) fun (v11 : Int64) =>
  (fn_X3_mixed σ4 v11 ((σ4.1 6))).bind fun (v12 : Int64) =>
  letb (v12) fun (v13 : Int64) =>
  K141 v13))
  else
  ((fn_X1_at σ4 x4_81).bind fun (v14 : Int32) =>
  (fn_X3_mixed σ4 x1_81 v14).bind fun (v15 : Int64) =>
  letb (v15) fun (v16 : Int64) =>
  letb (x4_81 + 1) fun (v17 : Int32) =>
  rec81 v16 v17)

def bd_X3_digest_30 (σ : SX) (rec16 : Int64 → Int32 → Option (Int64 × SX)) (x3_16 : Int32) (rec30 : Int64 → Int32 → Option (Int64 × SX)) (x1_30 : Int64) (x4_30 : Int32) : Option (Int64 × SX) :=
  if 6 ≤ x4_30 then
  (letb (x3_16 + 1) fun (v19 : Int32) =>
  rec16 x1_30 v19)
  else
  ((fn_X2_end σ x3_16 x4_30).bind fun (v20 : Int32) =>
  (fn_X3_mixed σ x1_30 v20).bind fun (v21 : Int64) =>
  letb (v21) fun (v22 : Int64) =>
  letb (x4_30 + 1) fun (v23 : Int32) =>
  rec30 v22 v23)

def bd_X3_digest_16 (σ : SX) (rec16 : Int64 → Int32 → Option (Int64 × SX)) (x1_16 : Int64) (x3_16 : Int32) : Option (Int64 × SX) :=
  if (σ.1 0) ≤ x3_16 then
  (bind2 (fn_X1_count σ) fun (v5 : Int32) (σ4 : SX) =>
  letb (v5) fun (v6 : Int32) =>
  (fn_X3_mixed σ4 x1_16 v6).bind fun (v7 : Int64) =>
  letb (v7) fun (v8 : Int64) =>
  letb (0) fun (v9 : Int32) =>
  loopF FU (bd_X3_digest_81 σ4 v6) (fun _ _ => none) v8 v9)
  else
  (letb (0) fun (v18 : Int32) =>
  loopF FU (bd_X3_digest_30 σ rec16 x3_16) (fun _ _ => none) x1_16 v18)

def fn_X3_digest (σ : SX)  : Option (Int64 × SX) :=
  (fn_X3_mixed σ ((151 : Int64)) ((σ.1 0))).bind fun (v1 : Int64) =>
  letb (v1) fun (v2 : Int64) =>
  letb (0) fun (v3 : Int32) =>
  loopF FU (bd_X3_digest_16 σ) (fun _ _ => none) v2 v3

def fn_X4_thrown (σ : SX)  : Option (Int32) :=
  some ((σ.1 0))

def fn_X4_fail (σ : SX) (p1 : Int32) : Option (Int32 × SX) :=
  letb (ss σ 0 p1) fun (σ1 : SX) =>
  some (0, σ1)

def fn_X4_isState (σ : SX) (p1 : Int32) : Option (Int32) :=
  letb (fun (_u : Unit) => zr 0) fun (K16 : Unit → Option (Int32)) =>
  if p1 < 0 then
  (K16 ())
  else
  (if (σ.1 1) ≤ p1 then
  (K16 ())
  else
  (zr 1))

def fn_X4_isLabel (σ : SX) (p1 : Int32) : Option (Int32) :=
  letb (fun (_u : Unit) => zr 0) fun (K14 : Unit → Option (Int32)) =>
  if p1 < 0 then
  (K14 ())
  else
  (if 6 ≤ p1 then
  (K14 ())
  else
  (zr 1))

def fn_X4_isSet (σ : SX) (p1 : Int32) : Option (Int32) :=
  letb (fun (_u : Unit) => zr 0) fun (K18 : Unit → Option (Int32)) =>
  if p1 < 0 then
  (K18 ())
  else
  (if (1 <<< ((σ.1 1) &&& 31)) ≤ p1 then
  (K18 ())
  else
  (zr 1))

def fn_X4_has (σ : SX) (p1 : Int32) (p2 : Int32) : Option (Int32) :=
  if ¬ ((p1 >>> (p2 &&& 31)) &&& 1) = 1 then
  (zr 0)
  else
  (zr 1)

def fn_X4_to (σ : SX) (p1 : Int32) (p2 : Int32) : Option (Int32) :=
  (ag σ 1 72 (((6 * p1) + p2))).bind fun (v1 : Int32) =>
  some v1

def fn_X4_change (σ : SX)  : Option (SX) :=
  letb (ss σ 2 0) fun (σ1 : SX) =>
  letb (ss σ1 4 0) fun (σ2 : SX) =>
  some σ2

def fn_X4_addState (σ : SX)  : Option (Int32 × SX) :=
  letb (ss σ 0 0) fun (σ1 : SX) =>
  if ¬ (σ1.1 1) = 12 then
  (letb (ss σ1 1 (((σ1.1 1) + 1))) fun (σ2 : SX) =>
  (fn_X4_change σ2).bind fun (σ3 : SX) =>
  some (((σ3.1 1) - 1), σ3))
  else
  (bind2 (fn_X4_fail σ1 1) fun (v5 : Int32) (σ4 : SX) =>
  some (v5, σ4))

def fn_X4_step (σ : SX) (p1 : Int32) (p2 : Int32) (p3 : Int32) : Option (Int32 × SX) :=
  letb (ss σ 0 0) fun (σ1 : SX) =>
  (fn_X4_isState σ1 p1).bind fun (v2 : Int32) =>
  letb (fun (_u : Unit) => bind2 (fn_X4_fail σ1 1) fun (v4 : Int32) (σ3 : SX) =>
  some (v4, σ3)) fun (K28 : Unit → Option (Int32 × SX)) =>
  if v2 = 0 then
  (K28 ())
  else
  ((fn_X4_isLabel σ1 p2).bind fun (v5 : Int32) =>
  if v5 = 0 then
  (K28 ())
  else
  ((fn_X4_isState σ1 p3).bind fun (v6 : Int32) =>
  if ¬ v6 = 0 then
  ((fn_X4_to σ1 p1 p2).bind fun (v7 : Int32) =>
  letb (v7) fun (v8 : Int32) =>
  (as_ σ1 1 72 (((6 * p1) + p2)) p3).bind fun (σ9 : SX) =>
  (fn_X4_change σ9).bind fun (σ10 : SX) =>
  some (v8, σ10))
  else
  (K28 ())))

def fn_X4_unstep (σ : SX) (p1 : Int32) (p2 : Int32) : Option (Int32 × SX) :=
  (fn_X4_isState σ p1).bind fun (v1 : Int32) =>
  letb (fun (z1_21 : Int32) => letb (ss σ 0 z1_21) fun (σ2 : SX) =>
  if (σ2.1 0) = 0 then
  ((fn_X4_to σ2 p1 p2).bind fun (v3 : Int32) =>
  letb (fun (z0_48 : Int32) => letb (z0_48) fun (v4 : Int32) =>
  (as_ σ2 1 72 (((6 * p1) + p2)) ((-1))).bind fun (σ5 : SX) =>
  (fn_X4_change σ5).bind fun (σ6 : SX) =>
  (zr v4).bind fun w9 => some (w9, σ6)) fun (K48 : Int32 → Option (Int32 × SX)) =>
  if v3 = (-1) then
  (K48 0)
  else
  (K48 1))
  else
  ((zr 0).bind fun w9 => some (w9, σ2))) fun (K21 : Int32 → Option (Int32 × SX)) =>
  letb (fun (_u : Unit) => K21 1) fun (K20 : Unit → Option (Int32 × SX)) =>
  if v1 = 0 then
  (K20 ())
  else
  ((fn_X4_isLabel σ p2).bind fun (v7 : Int32) =>
  if v7 = 0 then
  (K20 ())
  else
  (K21 0))

def bd_X4_rename_95 (p1 : Int32) (p2 : Int32) (x3_30 : Int32) (rec95 : Int32 → SX → Option (Int32 × SX)) (x4_95 : Int32) (σ_95 : SX) : Option (Int32 × SX) :=
  letb (fun (_u : Unit) => (fn_X4_change σ_95).bind fun (σ9 : SX) =>
  some (x3_30, σ9)) fun (K161 : Unit → Option (Int32 × SX)) =>
  if (σ_95.1 1) ≤ x4_95 then
  (K161 ())
  else
  (if p1 = p2 then
  (K161 ())
  else
  ((fn_X4_to σ_95 x4_95 p1).bind fun (v10 : Int32) =>
  letb (fun (τ_155 : SX) => letb (x4_95 + 1) fun (v11 : Int32) =>
  rec95 v11 τ_155) fun (K155 : SX → Option (Int32 × SX)) =>
  if ¬ v10 = (-1) then
  ((fn_X4_to σ_95 x4_95 p1).bind fun (v12 : Int32) =>
  (as_ σ_95 1 72 (((6 * x4_95) + p2)) v12).bind fun (σ13 : SX) =>
  (as_ σ13 1 72 (((6 * x4_95) + p1)) ((-1))).bind fun (σ14 : SX) =>
  K155 σ14)
  else
  (K155 σ_95)))

def bd_X4_rename_30 (p1 : Int32) (p2 : Int32) (rec30 : Int32 → Int32 → SX → Option (Int32 × SX)) (x3_30 : Int32) (x4_30 : Int32) (σ_30 : SX) : Option (Int32 × SX) :=
  if (σ_30.1 1) ≤ x4_30 then
  (if (σ_30.1 0) = 0 then
  (letb (0) fun (v8 : Int32) =>
  loopF FU (bd_X4_rename_95 p1 p2 x3_30) (fun _ _ => none) v8 σ_30)
  else
  (some (0, σ_30)))
  else
  ((fn_X4_to σ_30 x4_30 p1).bind fun (v15 : Int32) =>
  letb (fun (y3_77 : Int32) (τ_77 : SX) => letb (x4_30 + 1) fun (v16 : Int32) =>
  rec30 y3_77 v16 τ_77) fun (K77 : Int32 → SX → Option (Int32 × SX)) =>
  if ¬ v15 = (-1) then
  (letb (x3_30 + 1) fun (v17 : Int32) =>
  if p1 = p2 then
  (K77 v17 σ_30)
  else
  ((fn_X4_to σ_30 x4_30 p2).bind fun (v18 : Int32) =>
  if v18 = (-1) then
  (K77 v17 σ_30)
  else
  (letb (ss σ_30 0 2) fun (σ19 : SX) =>
  K77 v17 σ19)))
  else
  (K77 x3_30 σ_30))

def fn_X4_rename (σ : SX) (p1 : Int32) (p2 : Int32) : Option (Int32 × SX) :=
  letb (ss σ 0 0) fun (σ1 : SX) =>
  (fn_X4_isLabel σ1 p1).bind fun (v2 : Int32) =>
  letb (fun (_u : Unit) => bind2 (fn_X4_fail σ1 1) fun (v4 : Int32) (σ3 : SX) =>
  some (v4, σ3)) fun (K19 : Unit → Option (Int32 × SX)) =>
  if v2 = 0 then
  (K19 ())
  else
  ((fn_X4_isLabel σ1 p2).bind fun (v5 : Int32) =>
  if ¬ v5 = 0 then
  (letb (0) fun (v6 : Int32) =>
  letb (0) fun (v7 : Int32) =>
  loopF FU (bd_X4_rename_30 p1 p2) (fun _ _ _ => none) v6 v7 σ1)
  else
  (K19 ()))

def fn_X4_stateCount (σ : SX)  : Option (Int32 × SX) :=
  letb (ss σ 0 0) fun (σ1 : SX) =>
  some ((σ1.1 1), σ1)

def fn_X4_target (σ : SX) (p1 : Int32) (p2 : Int32) : Option (Int32 × SX) :=
  letb (ss σ 0 0) fun (σ1 : SX) =>
  (fn_X4_isState σ1 p1).bind fun (v2 : Int32) =>
  letb (fun (_u : Unit) => bind2 (fn_X4_fail σ1 1) fun (v4 : Int32) (σ3 : SX) =>
  some (v4, σ3)) fun (K29 : Unit → Option (Int32 × SX)) =>
  if v2 = 0 then
  (K29 ())
  else
  ((fn_X4_isLabel σ1 p2).bind fun (v5 : Int32) =>
  if v5 = 0 then
  (K29 ())
  else
  ((fn_X4_to σ1 p1 p2).bind fun (v6 : Int32) =>
  some (v6, σ1)))

def bd_X4_enabled_23 (p1 : Int32) (σ1 : SX) (rec23 : Int32 → Int32 → Option (Int32 × SX)) (x2_23 : Int32) (x3_23 : Int32) : Option (Int32 × SX) :=
  if 6 ≤ x3_23 then
  (some (x2_23, σ1))
  else
  ((fn_X4_to σ1 p1 x3_23).bind fun (v5 : Int32) =>
  letb (fun (y2_45 : Int32) => letb (x3_23 + 1) fun (v6 : Int32) =>
  rec23 y2_45 v6) fun (K45 : Int32 → Option (Int32 × SX)) =>
  if v5 = (-1) then
  (K45 x2_23)
  else
  (letb ((x2_23 ||| (1 <<< (x3_23 &&& 31)))) fun (v7 : Int32) =>
  K45 v7))

def fn_X4_enabled (σ : SX) (p1 : Int32) : Option (Int32 × SX) :=
  letb (ss σ 0 0) fun (σ1 : SX) =>
  (fn_X4_isState σ1 p1).bind fun (v2 : Int32) =>
  if ¬ v2 = 0 then
  (letb (0) fun (v3 : Int32) =>
  letb (0) fun (v4 : Int32) =>
  loopF FU (bd_X4_enabled_23 p1 σ1) (fun _ _ => none) v3 v4)
  else
  (bind2 (fn_X4_fail σ1 1) fun (v9 : Int32) (σ8 : SX) =>
  some (v9, σ8))

def bd_X4_goOn_15 (σ : SX) (p1 : Int32) (rec4 : Int32 → Int32 → Option (Int32)) (x3_4 : Int32) (rec15 : Int32 → Int32 → Option (Int32)) (x2_15 : Int32) (x4_15 : Int32) : Option (Int32) :=
  if 6 ≤ x4_15 then
  (letb (x3_4 + 1) fun (v4 : Int32) =>
  rec4 x2_15 v4)
  else
  ((fn_X4_has σ p1 x3_4).bind fun (v5 : Int32) =>
  letb (fun (y2_53 : Int32) => letb (x4_15 + 1) fun (v6 : Int32) =>
  rec15 y2_53 v6) fun (K53 : Int32 → Option (Int32)) =>
  if v5 = 0 then
  (K53 x2_15)
  else
  ((fn_X4_to σ x3_4 x4_15).bind fun (v7 : Int32) =>
  if v7 = (-1) then
  (K53 x2_15)
  else
  ((fn_X4_to σ x3_4 x4_15).bind fun (v8 : Int32) =>
  letb ((x2_15 ||| (1 <<< (v8 &&& 31)))) fun (v9 : Int32) =>
  K53 v9)))

def bd_X4_goOn_4 (σ : SX) (p1 : Int32) (rec4 : Int32 → Int32 → Option (Int32)) (x2_4 : Int32) (x3_4 : Int32) : Option (Int32) :=
  if (σ.1 1) ≤ x3_4 then
  (some x2_4)
  else
  (letb (0) fun (v3 : Int32) =>
  loopF FU (bd_X4_goOn_15 σ p1 rec4 x3_4) (fun _ _ => none) x2_4 v3)

def fn_X4_goOn (σ : SX) (p1 : Int32) : Option (Int32) :=
  letb (p1) fun (v1 : Int32) =>
  letb (0) fun (v2 : Int32) =>
  loopF FU (bd_X4_goOn_4 σ p1) (fun _ _ => none) v1 v2

def bd_X4_reached_7 (σ1 : SX) (rec7 : Int32 → Option (Int32 × SX)) (x1_7 : Int32) : Option (Int32 × SX) :=
  (fn_X4_goOn σ1 x1_7).bind fun (v3 : Int32) =>
  if v3 = x1_7 then
  (some (x1_7, σ1))
  else
  ((fn_X4_goOn σ1 x1_7).bind fun (v4 : Int32) =>
  letb (v4) fun (v5 : Int32) =>
  rec7 v5)

def fn_X4_reached (σ : SX)  : Option (Int32 × SX) :=
  letb (ss σ 0 0) fun (σ1 : SX) =>
  letb (1) fun (v2 : Int32) =>
  loopF FU (bd_X4_reached_7 σ1) (fun _ => none) v2

def bd_X4_distance_23 (p1 : Int32) (σ1 : SX) (rec23 : Int32 → Int32 → Option (Int32 × SX)) (x2_23 : Int32) (x3_23 : Int32) : Option (Int32 × SX) :=
  if 12 ≤ x3_23 then
  (some ((-1), σ1))
  else
  ((fn_X4_has σ1 x2_23 p1).bind fun (v5 : Int32) =>
  if v5 = 0 then
  ((fn_X4_goOn σ1 x2_23).bind fun (v6 : Int32) =>
  letb (v6) fun (v7 : Int32) =>
  letb (x3_23 + 1) fun (v8 : Int32) =>
  rec23 v7 v8)
  else
  (some (x3_23, σ1)))

def fn_X4_distance (σ : SX) (p1 : Int32) : Option (Int32 × SX) :=
  letb (ss σ 0 0) fun (σ1 : SX) =>
  (fn_X4_isState σ1 p1).bind fun (v2 : Int32) =>
  if ¬ v2 = 0 then
  (letb (1) fun (v3 : Int32) =>
  letb (0) fun (v4 : Int32) =>
  loopF FU (bd_X4_distance_23 p1 σ1) (fun _ _ => none) v3 v4)
  else
  (bind2 (fn_X4_fail σ1 1) fun (v10 : Int32) (σ9 : SX) =>
  some (v10, σ9))

def bd_X4_way_11 (σ : SX) (p1 : Int32) (p2 : Int32) (rec11 : Int32 → Int32 → Int32 → Int32 → Option (Int32)) (x3_11 : Int32) (x4_11 : Int32) (x5_11 : Int32) (x6_11 : Int32) : Option (Int32) :=
  if (σ.1 1) ≤ x6_11 then
  (if ¬ (x3_11 + x4_11) = 0 then
  (if ¬ x3_11 = x5_11 then
  (if ¬ x4_11 = x5_11 then
  (some 3)
  else
  (some 2))
  else
  (some 1))
  else
  (some 0))
  else
  ((fn_X4_to σ x6_11 p2).bind fun (v5 : Int32) =>
  letb (v5) fun (v6 : Int32) =>
  letb (fun (y3_95 : Int32) (y4_95 : Int32) (y5_95 : Int32) => letb (x6_11 + 1) fun (v7 : Int32) =>
  rec11 y3_95 y4_95 y5_95 v7) fun (K95 : Int32 → Int32 → Int32 → Option (Int32)) =>
  if ¬ v6 = (-1) then
  (letb (x5_11 + 1) fun (v8 : Int32) =>
  (fn_X4_has σ p1 x6_11).bind fun (v9 : Int32) =>
  letb (fun (z1_65 : Int32) => letb ((x3_11 + z1_65)) fun (v10 : Int32) =>
  (fn_X4_has σ p1 x6_11).bind fun (v11 : Int32) =>
  letb (fun (z1_92 : Int32) => letb ((x4_11 + z1_92)) fun (v12 : Int32) =>
  K95 v10 v12 v8) fun (K92 : Int32 → Option (Int32)) =>
  letb (fun (_u : Unit) => K92 0) fun (K91 : Unit → Option (Int32)) =>
  if v11 = 0 then
  (K91 ())
  else
  ((fn_X4_has σ p1 v6).bind fun (v13 : Int32) =>
  if ¬ v13 = 0 then
  (K91 ())
  else
  (K92 1))) fun (K65 : Int32 → Option (Int32)) =>
  letb (fun (_u : Unit) => K65 0) fun (K64 : Unit → Option (Int32)) =>
  if ¬ v9 = 0 then
  (K64 ())
  else
  ((fn_X4_has σ p1 v6).bind fun (v14 : Int32) =>
  if v14 = 0 then
  (K64 ())
  else
  (K65 1)))
  else
  (K95 x3_11 x4_11 x5_11))

def fn_X4_way (σ : SX) (p1 : Int32) (p2 : Int32) : Option (Int32) :=
  letb (0) fun (v1 : Int32) =>
  letb (0) fun (v2 : Int32) =>
  letb (0) fun (v3 : Int32) =>
  letb (0) fun (v4 : Int32) =>
  loopF FU (bd_X4_way_11 σ p1 p2) (fun _ _ _ _ => none) v1 v2 v3 v4

def bd_X4_mixed_2 (σ : SX) (p1 : Int32) (rec2 : Int32 → Option (Int32)) (x2_2 : Int32) : Option (Int32) :=
  if 6 ≤ x2_2 then
  (some ((-1)))
  else
  ((fn_X4_way σ p1 x2_2).bind fun (v2 : Int32) =>
  if ¬ v2 = 3 then
  (letb (x2_2 + 1) fun (v3 : Int32) =>
  rec2 v3)
  else
  (some x2_2))

def fn_X4_mixed (σ : SX) (p1 : Int32) : Option (Int32) :=
  letb (0) fun (v1 : Int32) =>
  loopF FU (bd_X4_mixed_2 σ p1) (fun _ => none) v1

def fn_X4_isProper (σ : SX) (p1 : Int32) : Option (Int32) :=
  letb (fun (_u : Unit) => zr 0) fun (K29 : Unit → Option (Int32)) =>
  if p1 ≤ 0 then
  (K29 ())
  else
  (if ((1 <<< ((σ.1 1) &&& 31)) - 1) ≤ p1 then
  (K29 ())
  else
  ((fn_X4_mixed σ p1).bind fun (v1 : Int32) =>
  if ¬ v1 = (-1) then
  (K29 ())
  else
  (zr 1)))

def bd_X4_know_20 (rec20 : Int32 → SX → Option (SX)) (x1_20 : Int32) (σ_20 : SX) : Option (SX) :=
  if (1 <<< ((σ_20.1 1) &&& 31)) ≤ x1_20 then
  (some σ_20)
  else
  ((fn_X4_isProper σ_20 x1_20).bind fun (v4 : Int32) =>
  letb (fun (τ_61 : SX) => letb (x1_20 + 1) fun (v5 : Int32) =>
  rec20 v5 τ_61) fun (K61 : SX → Option (SX)) =>
  if ¬ v4 = 0 then
  ((as_ σ_20 2 4096 ((σ_20.1 3)) x1_20).bind fun (σ6 : SX) =>
  letb (ss σ6 3 (((σ6.1 3) + 1))) fun (σ7 : SX) =>
  K61 σ7)
  else
  (K61 σ_20))

def fn_X4_know (σ : SX)  : Option (SX) :=
  if (σ.1 2) = 0 then
  (letb (ss σ 2 1) fun (σ1 : SX) =>
  letb (ss σ1 3 0) fun (σ2 : SX) =>
  letb (0) fun (v3 : Int32) =>
  loopF FU (bd_X4_know_20) (fun _ _ => none) v3 σ2)
  else
  (some σ)

def fn_X4_crossing (σ : SX) (p1 : Int32) (p2 : Int32) : Option (Int32 × SX) :=
  letb (ss σ 0 0) fun (σ1 : SX) =>
  (fn_X4_isSet σ1 p1).bind fun (v2 : Int32) =>
  if ¬ v2 = 0 then
  ((fn_X4_isLabel σ1 p2).bind fun (v3 : Int32) =>
  if v3 = 0 then
  (bind2 (fn_X4_fail σ1 2) fun (v5 : Int32) (σ4 : SX) =>
  some (v5, σ4))
  else
  ((fn_X4_way σ1 p1 p2).bind fun (v6 : Int32) =>
  some (v6, σ1)))
  else
  (bind2 (fn_X4_fail σ1 1) fun (v8 : Int32) (σ7 : SX) =>
  some (v8, σ7))

def fn_X4_isRegion (σ : SX) (p1 : Int32) : Option (Int32 × SX) :=
  (fn_X4_isSet σ p1).bind fun (v1 : Int32) =>
  letb (fun (z1_14 : Int32) => letb (ss σ 0 z1_14) fun (σ2 : SX) =>
  letb (fun (_u : Unit) => (zr 0).bind fun w9 => some (w9, σ2)) fun (K36 : Unit → Option (Int32 × SX)) =>
  if ¬ (σ2.1 0) = 0 then
  (K36 ())
  else
  ((fn_X4_isProper σ2 p1).bind fun (v3 : Int32) =>
  if v3 = 0 then
  (K36 ())
  else
  ((zr 1).bind fun w9 => some (w9, σ2)))) fun (K14 : Int32 → Option (Int32 × SX)) =>
  if v1 = 0 then
  (K14 1)
  else
  (K14 0)

def fn_X4_regionCount (σ : SX)  : Option (Int32 × SX) :=
  letb (ss σ 0 0) fun (σ1 : SX) =>
  (fn_X4_know σ1).bind fun (σ2 : SX) =>
  some ((σ2.1 3), σ2)

def fn_X4_region (σ : SX) (p1 : Int32) : Option (Int32 × SX) :=
  letb (ss σ 0 0) fun (σ1 : SX) =>
  (fn_X4_know σ1).bind fun (σ2 : SX) =>
  letb (fun (_u : Unit) => bind2 (fn_X4_fail σ2 1) fun (v4 : Int32) (σ3 : SX) =>
  some (v4, σ3)) fun (K30 : Unit → Option (Int32 × SX)) =>
  if p1 < 0 then
  (K30 ())
  else
  (if (σ2.1 3) ≤ p1 then
  (K30 ())
  else
  ((ag σ2 2 4096 p1).bind fun (v5 : Int32) =>
  some (v5, σ2)))

def bd_X4_isSmallest_4 (σ : SX) (p1 : Int32) (rec4 : Int32 → Int32 → Option (Int32)) (x2_4 : Int32) (x3_4 : Int32) : Option (Int32) :=
  letb (fun (_u : Unit) => zr x2_4) fun (K43 : Unit → Option (Int32)) =>
  if p1 ≤ x3_4 then
  (K43 ())
  else
  (if x2_4 = 0 then
  (K43 ())
  else
  ((ag σ 2 4096 x3_4).bind fun (v3 : Int32) =>
  (ag σ 2 4096 p1).bind fun (v4 : Int32) =>
  letb (fun (z0_36 : Int32) => letb (z0_36) fun (v5 : Int32) =>
  letb (x3_4 + 1) fun (v6 : Int32) =>
  rec4 v5 v6) fun (K36 : Int32 → Option (Int32)) =>
  if (v3 &&& (v4 ^^^ (-1))) = 0 then
  (K36 0)
  else
  (K36 1)))

def fn_X4_isSmallest (σ : SX) (p1 : Int32) : Option (Int32) :=
  letb (1) fun (v1 : Int32) =>
  letb (0) fun (v2 : Int32) =>
  loopF FU (bd_X4_isSmallest_4 σ p1) (fun _ _ => none) v1 v2

def fn_X4_isLeast (σ : SX) (p1 : Int32) : Option (Int32 × SX) :=
  (fn_X4_know σ).bind fun (σ1 : SX) =>
  letb (fun (z1_22 : Int32) => letb (ss σ1 0 z1_22) fun (σ2 : SX) =>
  letb (fun (_u : Unit) => (zr 0).bind fun w9 => some (w9, σ2)) fun (K44 : Unit → Option (Int32 × SX)) =>
  if ¬ (σ2.1 0) = 0 then
  (K44 ())
  else
  ((fn_X4_isSmallest σ2 p1).bind fun (v3 : Int32) =>
  if v3 = 0 then
  (K44 ())
  else
  ((zr 1).bind fun w9 => some (w9, σ2)))) fun (K22 : Int32 → Option (Int32 × SX)) =>
  letb (fun (_u : Unit) => K22 1) fun (K21 : Unit → Option (Int32 × SX)) =>
  if p1 < 0 then
  (K21 ())
  else
  (if (σ1.1 3) ≤ p1 then
  (K21 ())
  else
  (K22 0))

def bd_X4_ends_5 (σ : SX) (p1 : Int32) (p2 : Int32) (rec5 : Int32 → Int32 → Option (Int32)) (x3_5 : Int32) (x4_5 : Int32) : Option (Int32) :=
  if (σ.1 1) ≤ x4_5 then
  (some x3_5)
  else
  ((fn_X4_to σ x4_5 p1).bind fun (v3 : Int32) =>
  letb (fun (y3_46 : Int32) => letb (x4_5 + 1) fun (v4 : Int32) =>
  rec5 y3_46 v4) fun (K46 : Int32 → Option (Int32)) =>
  if v3 = (-1) then
  (K46 x3_5)
  else
  (letb (fun (z2_43 : Int32) => letb ((x3_5 ||| (1 <<< (z2_43 &&& 31)))) fun (v5 : Int32) =>
  K46 v5) fun (K43 : Int32 → Option (Int32)) =>
  if p2 = 0 then
  ((fn_X4_to σ x4_5 p1).bind fun (v6 : Int32) =>
  K43 v6)
  else
  (K43 x4_5)))

def fn_X4_ends (σ : SX) (p1 : Int32) (p2 : Int32) : Option (Int32) :=
  letb (0) fun (v1 : Int32) =>
  letb (0) fun (v2 : Int32) =>
  loopF FU (bd_X4_ends_5 σ p1 p2) (fun _ _ => none) v1 v2

def bd_X4_grow_27 (σ1 : SX) (rec27 : Int32 → Int32 → Option (Int32 × SX)) (x2_27 : Int32) (x3_27 : Int32) : Option (Int32 × SX) :=
  if x3_27 = (-1) then
  (some (x2_27, σ1))
  else
  ((fn_X4_ends σ1 x3_27 1).bind fun (v6 : Int32) =>
  letb (v6) fun (v7 : Int32) =>
  (fn_X4_ends σ1 x3_27 0).bind fun (v8 : Int32) =>
  letb (v8) fun (v9 : Int32) =>
  letb (fun (z0_76 : Int32) => letb (z0_76) fun (v10 : Int32) =>
  letb (fun (z1_91 : Int32) => letb ((x2_27 ||| z1_91)) fun (v11 : Int32) =>
  (fn_X4_mixed σ1 v11).bind fun (v12 : Int32) =>
  letb (v12) fun (v13 : Int32) =>
  rec27 v11 v13) fun (K91 : Int32 → Option (Int32 × SX)) =>
  if v10 = 0 then
  (K91 v9)
  else
  (K91 v7)) fun (K76 : Int32 → Option (Int32 × SX)) =>
  letb (fun (_u : Unit) => K76 1) fun (K71 : Unit → Option (Int32 × SX)) =>
  letb (fun (_u : Unit) => if ¬ (v9 &&& (x2_27 ^^^ (-1))) = 0 then
  (K76 0)
  else
  (K71 ())) fun (K62 : Unit → Option (Int32 × SX)) =>
  if (v7 &&& x2_27) = 0 then
  (K62 ())
  else
  (if (v9 &&& x2_27) = 0 then
  (K71 ())
  else
  (K62 ())))

def fn_X4_grow (σ : SX) (p1 : Int32) : Option (Int32 × SX) :=
  letb (ss σ 0 0) fun (σ1 : SX) =>
  (fn_X4_isSet σ1 p1).bind fun (v2 : Int32) =>
  if ¬ v2 = 0 then
  (letb (p1) fun (v3 : Int32) =>
  (fn_X4_mixed σ1 v3).bind fun (v4 : Int32) =>
  letb (v4) fun (v5 : Int32) =>
  loopF FU (bd_X4_grow_27 σ1) (fun _ _ => none) v3 v5)
  else
  (bind2 (fn_X4_fail σ1 1) fun (v15 : Int32) (σ14 : SX) =>
  some (v15, σ14))

def bd_X4_firstApart_6 (p1 : Int32) (p2 : Int32) (σ1 : SX) (rec6 : Int32 → Option (Int32 × SX)) (x3_6 : Int32) : Option (Int32 × SX) :=
  if (σ1.1 3) ≤ x3_6 then
  (some ((-1), σ1))
  else
  ((ag σ1 2 4096 x3_6).bind fun (v3 : Int32) =>
  (fn_X4_has σ1 v3 p1).bind fun (v4 : Int32) =>
  (ag σ1 2 4096 x3_6).bind fun (v5 : Int32) =>
  (fn_X4_has σ1 v5 p2).bind fun (v6 : Int32) =>
  if v4 = v6 then
  (letb (x3_6 + 1) fun (v7 : Int32) =>
  rec6 v7)
  else
  (some (x3_6, σ1)))

def fn_X4_firstApart (σ : SX) (p1 : Int32) (p2 : Int32) : Option (Int32 × SX) :=
  (fn_X4_know σ).bind fun (σ1 : SX) =>
  letb (0) fun (v2 : Int32) =>
  loopF FU (bd_X4_firstApart_6 p1 p2 σ1) (fun _ => none) v2

def fn_X4_apart (σ : SX) (p1 : Int32) (p2 : Int32) : Option (Int32 × SX) :=
  letb (ss σ 0 0) fun (σ1 : SX) =>
  (fn_X4_isState σ1 p1).bind fun (v2 : Int32) =>
  letb (fun (_u : Unit) => bind2 (fn_X4_fail σ1 1) fun (v4 : Int32) (σ3 : SX) =>
  some (v4, σ3)) fun (K30 : Unit → Option (Int32 × SX)) =>
  if v2 = 0 then
  (K30 ())
  else
  ((fn_X4_isState σ1 p2).bind fun (v5 : Int32) =>
  if v5 = 0 then
  (K30 ())
  else
  (bind2 (fn_X4_firstApart σ1 p1 p2) fun (v7 : Int32) (σ6 : SX) =>
  some (v7, σ6)))

def bd_X4_firstPreventer_6 (p1 : Int32) (p2 : Int32) (σ1 : SX) (rec6 : Int32 → Option (Int32 × SX)) (x3_6 : Int32) : Option (Int32 × SX) :=
  if (σ1.1 3) ≤ x3_6 then
  (some ((-1), σ1))
  else
  ((ag σ1 2 4096 x3_6).bind fun (v3 : Int32) =>
  (fn_X4_way σ1 v3 p2).bind fun (v4 : Int32) =>
  letb (v4) fun (v5 : Int32) =>
  letb (fun (_u : Unit) => some (x3_6, σ1)) fun (K65 : Unit → Option (Int32 × SX)) =>
  letb (fun (_u : Unit) => letb (fun (_u : Unit) => letb (x3_6 + 1) fun (v6 : Int32) =>
  rec6 v6) fun (K67 : Unit → Option (Int32 × SX)) =>
  if ¬ v5 = 1 then
  (K67 ())
  else
  ((ag σ1 2 4096 x3_6).bind fun (v7 : Int32) =>
  (fn_X4_has σ1 v7 p1).bind fun (v8 : Int32) =>
  if v8 = 0 then
  (K67 ())
  else
  (K65 ()))) fun (K46 : Unit → Option (Int32 × SX)) =>
  if ¬ v5 = 2 then
  (K46 ())
  else
  ((ag σ1 2 4096 x3_6).bind fun (v9 : Int32) =>
  (fn_X4_has σ1 v9 p1).bind fun (v10 : Int32) =>
  if v10 = 0 then
  (K65 ())
  else
  (K46 ())))

def fn_X4_firstPreventer (σ : SX) (p1 : Int32) (p2 : Int32) : Option (Int32 × SX) :=
  (fn_X4_know σ).bind fun (σ1 : SX) =>
  letb (0) fun (v2 : Int32) =>
  loopF FU (bd_X4_firstPreventer_6 p1 p2 σ1) (fun _ => none) v2

def fn_X4_preventer (σ : SX) (p1 : Int32) (p2 : Int32) : Option (Int32 × SX) :=
  letb (ss σ 0 0) fun (σ1 : SX) =>
  (fn_X4_isState σ1 p1).bind fun (v2 : Int32) =>
  letb (fun (_u : Unit) => bind2 (fn_X4_fail σ1 1) fun (v4 : Int32) (σ3 : SX) =>
  some (v4, σ3)) fun (K20 : Unit → Option (Int32 × SX)) =>
  if v2 = 0 then
  (K20 ())
  else
  ((fn_X4_isLabel σ1 p2).bind fun (v5 : Int32) =>
  if ¬ v5 = 0 then
  ((fn_X4_to σ1 p1 p2).bind fun (v6 : Int32) =>
  if v6 = (-1) then
  (bind2 (fn_X4_firstPreventer σ1 p1 p2) fun (v8 : Int32) (σ7 : SX) =>
  some (v8, σ7))
  else
  (some ((-2), σ1)))
  else
  (K20 ()))

def bd_X4_lumpCount_14 (rec4 : Int32 → Int32 → SX → Option (Int32 × SX)) (x2_4 : Int32) (rec14 : Int32 → Int32 → SX → Option (Int32 × SX)) (x1_14 : Int32) (x3_14 : Int32) (σ_14 : SX) : Option (Int32 × SX) :=
  if x2_4 ≤ x3_14 then
  (letb (x2_4 + 1) fun (v4 : Int32) =>
  rec4 x1_14 v4 σ_14)
  else
  (bind2 (fn_X4_firstApart σ_14 x2_4 x3_14) fun (v6 : Int32) (σ5 : SX) =>
  letb (fun (z1_35 : Int32) => letb ((x1_14 + z1_35)) fun (v7 : Int32) =>
  letb (x3_14 + 1) fun (v8 : Int32) =>
  rec14 v7 v8 σ5) fun (K35 : Int32 → Option (Int32 × SX)) =>
  if ¬ v6 = (-1) then
  (K35 0)
  else
  (K35 1))

def bd_X4_lumpCount_4 (rec4 : Int32 → Int32 → SX → Option (Int32 × SX)) (x1_4 : Int32) (x2_4 : Int32) (σ_4 : SX) : Option (Int32 × SX) :=
  if (σ_4.1 1) ≤ x2_4 then
  (some (x1_4, σ_4))
  else
  (letb (0) fun (v3 : Int32) =>
  loopF FU (bd_X4_lumpCount_14 rec4 x2_4) (fun _ _ _ => none) x1_4 v3 σ_4)

def fn_X4_lumpCount (σ : SX)  : Option (Int32 × SX) :=
  letb (0) fun (v1 : Int32) =>
  letb (0) fun (v2 : Int32) =>
  loopF FU (bd_X4_lumpCount_4) (fun _ _ _ => none) v1 v2 σ

def fn_X4_lumps (σ : SX)  : Option (Int32 × SX) :=
  letb (ss σ 0 0) fun (σ1 : SX) =>
  bind2 (fn_X4_lumpCount σ1) fun (v3 : Int32) (σ2 : SX) =>
  some (v3, σ2)

def fn_X4_isAsked (σ : SX) (p1 : Int32) (p2 : Int32) : Option (Int32) :=
  (fn_X4_to σ p1 p2).bind fun (v1 : Int32) =>
  letb (fun (_u : Unit) => zr 0) fun (K23 : Unit → Option (Int32)) =>
  if ¬ v1 = (-1) then
  (K23 ())
  else
  ((fn_X4_ends σ p2 1).bind fun (v2 : Int32) =>
  if v2 = 0 then
  (K23 ())
  else
  (zr 1))

def bd_X4_leakCount_14 (rec4 : Int32 → Int32 → SX → Option (Int32 × SX)) (x2_4 : Int32) (rec14 : Int32 → Int32 → SX → Option (Int32 × SX)) (x1_14 : Int32) (x3_14 : Int32) (σ_14 : SX) : Option (Int32 × SX) :=
  if 6 ≤ x3_14 then
  (letb (x2_4 + 1) fun (v4 : Int32) =>
  rec4 x1_14 v4 σ_14)
  else
  ((fn_X4_isAsked σ_14 x2_4 x3_14).bind fun (v5 : Int32) =>
  letb (fun (z1_45 : Int32) (τ_45 : SX) => letb ((x1_14 + z1_45)) fun (v6 : Int32) =>
  letb (x3_14 + 1) fun (v7 : Int32) =>
  rec14 v6 v7 τ_45) fun (K45 : Int32 → SX → Option (Int32 × SX)) =>
  letb (fun (τ_44 : SX) => K45 0 τ_44) fun (K44 : SX → Option (Int32 × SX)) =>
  if v5 = 0 then
  (K44 σ_14)
  else
  (bind2 (fn_X4_firstPreventer σ_14 x2_4 x3_14) fun (v9 : Int32) (σ8 : SX) =>
  if ¬ v9 = (-1) then
  (K44 σ8)
  else
  (K45 1 σ8)))

def bd_X4_leakCount_4 (rec4 : Int32 → Int32 → SX → Option (Int32 × SX)) (x1_4 : Int32) (x2_4 : Int32) (σ_4 : SX) : Option (Int32 × SX) :=
  if (σ_4.1 1) ≤ x2_4 then
  (some (x1_4, σ_4))
  else
  (letb (0) fun (v3 : Int32) =>
  loopF FU (bd_X4_leakCount_14 rec4 x2_4) (fun _ _ _ => none) x1_4 v3 σ_4)

def fn_X4_leakCount (σ : SX)  : Option (Int32 × SX) :=
  letb (0) fun (v1 : Int32) =>
  letb (0) fun (v2 : Int32) =>
  loopF FU (bd_X4_leakCount_4) (fun _ _ _ => none) v1 v2 σ

def fn_X4_leaks (σ : SX)  : Option (Int32 × SX) :=
  letb (ss σ 0 0) fun (σ1 : SX) =>
  bind2 (fn_X4_leakCount σ1) fun (v3 : Int32) (σ2 : SX) =>
  some (v3, σ2)

def bd_X4_firstMarking_4 (σ : SX) (rec4 : Int32 → Int32 → Option (Int32)) (x1_4 : Int32) (x2_4 : Int32) : Option (Int32) :=
  if (σ.1 5) ≤ x2_4 then
  (some x1_4)
  else
  ((ag σ 3 30 x2_4).bind fun (v3 : Int32) =>
  (fn_X4_has σ v3 0).bind fun (v4 : Int32) =>
  letb (fun (y1_31 : Int32) => letb (x2_4 + 1) fun (v5 : Int32) =>
  rec4 y1_31 v5) fun (K31 : Int32 → Option (Int32)) =>
  if v4 = 0 then
  (K31 x1_4)
  else
  (letb ((x1_4 ||| (1 <<< (x2_4 &&& 31)))) fun (v6 : Int32) =>
  K31 v6))

def fn_X4_firstMarking (σ : SX)  : Option (Int32) :=
  letb (0) fun (v1 : Int32) =>
  letb (0) fun (v2 : Int32) =>
  loopF FU (bd_X4_firstMarking_4 σ) (fun _ _ => none) v1 v2

def fn_X4_hasNet (σ : SX)  : Option (Int32 × SX) :=
  letb (ss σ 0 0) fun (σ1 : SX) =>
  (zr ((σ1.1 4))).bind fun w9 => some (w9, σ1)

def fn_X4_asks (σ : SX) (p1 : Int32) (p2 : Int32) : Option (Int32 × SX) :=
  letb (fun (z1_26 : Int32) => letb (ss σ 0 z1_26) fun (σ1 : SX) =>
  if ¬ (σ1.1 0) = 0 then
  ((zr 0).bind fun w9 => some (w9, σ1))
  else
  ((zr 1).bind fun w9 => some (w9, σ1))) fun (K26 : Int32 → Option (Int32 × SX)) =>
  if ¬ (σ.1 4) = 0 then
  (letb (fun (_u : Unit) => K26 2) fun (K21 : Unit → Option (Int32 × SX)) =>
  if p1 < 0 then
  (K21 ())
  else
  (if p1 < p2 then
  (K26 0)
  else
  (K21 ())))
  else
  (K26 1)

def fn_X4_placeRegion (σ : SX) (p1 : Int32) : Option (Int32 × SX) :=
  bind2 (fn_X4_asks σ p1 ((σ.1 5))) fun (v2 : Int32) (σ1 : SX) =>
  if v2 = 0 then
  (some (0, σ1))
  else
  ((ag σ1 3 30 p1).bind fun (v3 : Int32) =>
  some (v3, σ1))

def bd_X4_crossed_5 (σ : SX) (p1 : Int32) (p2 : Int32) (rec5 : Int32 → Int32 → Option (Int32)) (x3_5 : Int32) (x4_5 : Int32) : Option (Int32) :=
  if (σ.1 5) ≤ x4_5 then
  (some x3_5)
  else
  ((ag σ 3 30 x4_5).bind fun (v3 : Int32) =>
  (fn_X4_way σ v3 p1).bind fun (v4 : Int32) =>
  letb (fun (y3_37 : Int32) => letb (x4_5 + 1) fun (v5 : Int32) =>
  rec5 y3_37 v5) fun (K37 : Int32 → Option (Int32)) =>
  if ¬ v4 = p2 then
  (K37 x3_5)
  else
  (letb ((x3_5 ||| (1 <<< (x4_5 &&& 31)))) fun (v6 : Int32) =>
  K37 v6))

def fn_X4_crossed (σ : SX) (p1 : Int32) (p2 : Int32) : Option (Int32) :=
  letb (0) fun (v1 : Int32) =>
  letb (0) fun (v2 : Int32) =>
  loopF FU (bd_X4_crossed_5 σ p1 p2) (fun _ _ => none) v1 v2

def fn_X4_consumed (σ : SX) (p1 : Int32) : Option (Int32 × SX) :=
  bind2 (fn_X4_asks σ p1 6) fun (v2 : Int32) (σ1 : SX) =>
  if v2 = 0 then
  (some (0, σ1))
  else
  ((fn_X4_crossed σ1 p1 2).bind fun (v3 : Int32) =>
  some (v3, σ1))

def fn_X4_produced (σ : SX) (p1 : Int32) : Option (Int32 × SX) :=
  bind2 (fn_X4_asks σ p1 6) fun (v2 : Int32) (σ1 : SX) =>
  if v2 = 0 then
  (some (0, σ1))
  else
  ((fn_X4_crossed σ1 p1 1).bind fun (v3 : Int32) =>
  some (v3, σ1))

def fn_X4_marking (σ : SX)  : Option (Int32 × SX) :=
  bind2 (fn_X4_asks σ 0 1) fun (v2 : Int32) (σ1 : SX) =>
  if v2 = 0 then
  (some (0, σ1))
  else
  (some ((σ1.1 6), σ1))

def fn_X4_behind (σ : SX) (p1 : Int32) (p2 : Int32) : Option (Int32) :=
  (fn_X4_crossed σ p2 2).bind fun (v1 : Int32) =>
  letb (v1) fun (v2 : Int32) =>
  (fn_X4_crossed σ p2 1).bind fun (v3 : Int32) =>
  letb (v3) fun (v4 : Int32) =>
  (fn_X4_ends σ p2 1).bind fun (v5 : Int32) =>
  letb (fun (_u : Unit) => some ((-1))) fun (K39 : Unit → Option (Int32)) =>
  if v5 = 0 then
  (K39 ())
  else
  (if ¬ (v2 &&& (p1 ^^^ (-1))) = 0 then
  (K39 ())
  else
  (if (v4 &&& p1) = 0 then
  (some (((p1 &&& (v2 ^^^ (-1))) ||| v4)))
  else
  (K39 ())))

def fn_X4_fire (σ : SX) (p1 : Int32) : Option (Int32 × SX) :=
  bind2 (fn_X4_asks σ p1 6) fun (v2 : Int32) (σ1 : SX) =>
  if ¬ v2 = 0 then
  ((fn_X4_behind σ1 ((σ1.1 6)) p1).bind fun (v3 : Int32) =>
  letb (v3) fun (v4 : Int32) =>
  letb (fun (τ_32 : SX) => some (v4, τ_32)) fun (K32 : SX → Option (Int32 × SX)) =>
  if v4 = (-1) then
  (K32 σ1)
  else
  (letb (ss σ1 6 v4) fun (σ5 : SX) =>
  K32 σ5))
  else
  (some (0, σ1))

def bd_X4_numberOf_2 (σ : SX) (p1 : Int32) (rec2 : Int32 → Option (Int32)) (x2_2 : Int32) : Option (Int32) :=
  if (σ.1 7) ≤ x2_2 then
  (some ((-1)))
  else
  ((ag σ 4 200 x2_2).bind fun (v2 : Int32) =>
  if ¬ v2 = p1 then
  (letb (x2_2 + 1) fun (v3 : Int32) =>
  rec2 v3)
  else
  (some x2_2))

def fn_X4_numberOf (σ : SX) (p1 : Int32) : Option (Int32) :=
  letb (0) fun (v1 : Int32) =>
  loopF FU (bd_X4_numberOf_2 σ p1) (fun _ => none) v1

def bd_X4_findMarkings_27 (rec17 : Int32 → SX → Option (SX)) (x1_17 : Int32) (rec27 : Int32 → SX → Option (SX)) (x2_27 : Int32) (σ_27 : SX) : Option (SX) :=
  letb (fun (_u : Unit) => letb (x1_17 + 1) fun (v6 : Int32) =>
  rec17 v6 σ_27) fun (K98 : Unit → Option (SX)) =>
  if 6 ≤ x2_27 then
  (K98 ())
  else
  (if 200 ≤ (σ_27.1 7) then
  (K98 ())
  else
  ((ag σ_27 4 200 x1_17).bind fun (v7 : Int32) =>
  (fn_X4_behind σ_27 v7 x2_27).bind fun (v8 : Int32) =>
  letb (v8) fun (v9 : Int32) =>
  letb (fun (τ_92 : SX) => letb (x2_27 + 1) fun (v10 : Int32) =>
  rec27 v10 τ_92) fun (K92 : SX → Option (SX)) =>
  if v9 = (-1) then
  (K92 σ_27)
  else
  ((fn_X4_numberOf σ_27 v9).bind fun (v11 : Int32) =>
  if v11 = (-1) then
  ((as_ σ_27 4 200 ((σ_27.1 7)) v9).bind fun (σ12 : SX) =>
  letb (ss σ12 7 (((σ12.1 7) + 1))) fun (σ13 : SX) =>
  K92 σ13)
  else
  (K92 σ_27))))

def bd_X4_findMarkings_17 (rec17 : Int32 → SX → Option (SX)) (x1_17 : Int32) (σ_17 : SX) : Option (SX) :=
  if (σ_17.1 7) ≤ x1_17 then
  (some σ_17)
  else
  (letb (0) fun (v5 : Int32) =>
  loopF FU (bd_X4_findMarkings_27 rec17 x1_17) (fun _ _ => none) v5 σ_17)

def fn_X4_findMarkings (σ : SX)  : Option (SX) :=
  (fn_X4_firstMarking σ).bind fun (v1 : Int32) =>
  (as_ σ 4 200 0 v1).bind fun (σ2 : SX) =>
  letb (ss σ2 7 1) fun (σ3 : SX) =>
  letb (0) fun (v4 : Int32) =>
  loopF FU (bd_X4_findMarkings_17) (fun _ _ => none) v4 σ3

def bd_X4_makeNet_23 (K91 : SX → Option (Int32 × SX)) (rec23 : Int32 → SX → Option (Int32 × SX)) (x1_23 : Int32) (σ_23 : SX) : Option (Int32 × SX) :=
  letb (fun (_u : Unit) => letb (ss σ_23 4 1) fun (σ7 : SX) =>
  (fn_X4_findMarkings σ7).bind fun (σ8 : SX) =>
  K91 σ8) fun (K82 : Unit → Option (Int32 × SX)) =>
  if (σ_23.1 3) ≤ x1_23 then
  (K82 ())
  else
  (if 30 ≤ (σ_23.1 5) then
  (K82 ())
  else
  ((fn_X4_isSmallest σ_23 x1_23).bind fun (v9 : Int32) =>
  letb (fun (τ_76 : SX) => letb (x1_23 + 1) fun (v10 : Int32) =>
  rec23 v10 τ_76) fun (K76 : SX → Option (Int32 × SX)) =>
  if ¬ v9 = 0 then
  ((ag σ_23 2 4096 x1_23).bind fun (v11 : Int32) =>
  (as_ σ_23 3 30 ((σ_23.1 5)) v11).bind fun (σ12 : SX) =>
  letb (ss σ12 5 (((σ12.1 5) + 1))) fun (σ13 : SX) =>
  K76 σ13)
  else
  (K76 σ_23)))

def fn_X4_makeNet (σ : SX)  : Option (Int32 × SX) :=
  letb (ss σ 0 0) fun (σ1 : SX) =>
  letb (fun (τ_91 : SX) => (fn_X4_firstMarking τ_91).bind fun (v2 : Int32) =>
  letb (ss τ_91 6 v2) fun (σ3 : SX) =>
  some ((σ3.1 5), σ3)) fun (K91 : SX → Option (Int32 × SX)) =>
  if ¬ (σ1.1 4) = 0 then
  (K91 σ1)
  else
  ((fn_X4_know σ1).bind fun (σ4 : SX) =>
  letb (ss σ4 5 0) fun (σ5 : SX) =>
  letb (0) fun (v6 : Int32) =>
  loopF FU (bd_X4_makeNet_23 K91) (fun _ _ => none) v6 σ5)

def fn_X4_markingCount (σ : SX)  : Option (Int32 × SX) :=
  bind2 (fn_X4_asks σ 0 1) fun (v2 : Int32) (σ1 : SX) =>
  if v2 = 0 then
  (some (0, σ1))
  else
  (some ((σ1.1 7), σ1))

def fn_X4_markingAt (σ : SX) (p1 : Int32) : Option (Int32 × SX) :=
  bind2 (fn_X4_asks σ p1 ((σ.1 7))) fun (v2 : Int32) (σ1 : SX) =>
  if v2 = 0 then
  (some (0, σ1))
  else
  ((ag σ1 4 200 p1).bind fun (v3 : Int32) =>
  some (v3, σ1))

def bd_X4_digest_80 (σ2 : SX) (rec80 : Int64 → Int32 → Option (Int64 × SX)) (x1_80 : Int64) (x3_80 : Int32) : Option (Int64 × SX) :=
  if (σ2.1 3) ≤ x3_80 then
  (if (σ2.1 4) = 0 then
  (some (x1_80, σ2))
  else
  (some (((((x1_80 * (31 : Int64)) + ((σ2.1 5)).toInt64) * (31 : Int64)) + ((σ2.1 6)).toInt64), σ2)))
  else
  ((ag σ2 2 4096 x3_80).bind fun (v7 : Int32) =>
  letb (((x1_80 * (31 : Int64)) + v7.toInt64)) fun (v8 : Int64) =>
  letb (x3_80 + 1) fun (v9 : Int32) =>
  rec80 v8 v9)

def bd_X4_digest_32 (σ2 : SX) (rec21 : Int64 → Int32 → Option (Int64 × SX)) (x3_21 : Int32) (rec32 : Int64 → Int32 → Option (Int64 × SX)) (x1_32 : Int64) (x4_32 : Int32) : Option (Int64 × SX) :=
  if 6 ≤ x4_32 then
  (letb (x3_21 + 1) fun (v11 : Int32) =>
  rec21 x1_32 v11)
  else
  ((fn_X4_to σ2 x3_21 x4_32).bind fun (v12 : Int32) =>
  letb (((x1_32 * (31 : Int64)) + v12.toInt64)) fun (v13 : Int64) =>
  letb (x4_32 + 1) fun (v14 : Int32) =>
  rec32 v13 v14)

def bd_X4_digest_21 (σ2 : SX) (rec21 : Int64 → Int32 → Option (Int64 × SX)) (x1_21 : Int64) (x3_21 : Int32) : Option (Int64 × SX) :=
  if (σ2.1 1) ≤ x3_21 then
  (letb (((x1_21 * (31 : Int64)) + ((σ2.1 3)).toInt64)) fun (v5 : Int64) =>
  letb (0) fun (v6 : Int32) =>
  loopF FU (bd_X4_digest_80 σ2) (fun _ _ => none) v5 v6)
  else
  (letb (0) fun (v10 : Int32) =>
  loopF FU (bd_X4_digest_32 σ2 rec21 x3_21) (fun _ _ => none) x1_21 v10)

def fn_X4_digest (σ : SX)  : Option (Int64 × SX) :=
  letb (ss σ 0 0) fun (σ1 : SX) =>
  (fn_X4_know σ1).bind fun (σ2 : SX) =>
  letb (((4681 : Int64) + ((σ2.1 1)).toInt64)) fun (v3 : Int64) =>
  letb (0) fun (v4 : Int32) =>
  loopF FU (bd_X4_digest_21 σ2) (fun _ _ => none) v3 v4
