/-! by wip/p34/gen.py: pure functions of the methods (what each computes) -/
def fn_J6_bitCount (p1 : Int32) : Option (Int32) :=
  letb ((p1 - ((p1.toUInt32 >>> ((1 : Int32).toUInt32 &&& Int32.toUInt32 31)).toInt32 &&& 1431655765))) fun (v1 : Int32) =>
  letb (((v1 &&& 858993459) + ((v1.toUInt32 >>> ((2 : Int32).toUInt32 &&& Int32.toUInt32 31)).toInt32 &&& 858993459))) fun (v2 : Int32) =>
  letb (((v2 + (v2.toUInt32 >>> ((4 : Int32).toUInt32 &&& Int32.toUInt32 31)).toInt32) &&& 252645135)) fun (v3 : Int32) =>
  letb ((v3 + (v3.toUInt32 >>> ((8 : Int32).toUInt32 &&& Int32.toUInt32 31)).toInt32)) fun (v4 : Int32) =>
  letb ((v4 + (v4.toUInt32 >>> ((16 : Int32).toUInt32 &&& Int32.toUInt32 31)).toInt32)) fun (v5 : Int32) =>
  some ((v5 &&& 63))

def fn_L_below (p1 : Int32) (p2 : Int32) : Option (Int32) :=
  (nz p2).bind fun (_ : Unit) =>
  some (((p1 &&& 2147483647) - (p1 &&& 2147483647) / p2 * p2))

def fn_X3_has (σ : SX) (p1 : Int32) (p2 : Int32) : Option (Int32) :=
  if ((p1 >>> (p2 &&& 31)) &&& 1) = 0 then
  (zr 0)
  else
  (zr 1)

def fn_X2_all (σ : SX)  : Option (Int32) :=
  some (((1 <<< ((σ.1 0) &&& 31)) - 1))

def fn_X2_end (σ : SX) (p1 : Int32) (p2 : Int32) : Option (Int32) :=
  (arow p2).bind fun (r1 : Nat) =>
  (ag σ (13 + r1) 12 p1).bind fun (v2 : Int32) =>
  some v2

def fn_X2_beginning (σ : SX) (p1 : Int32) : Option (Int32) :=
  (ag σ 5 6 p1).bind fun (v1 : Int32) =>
  some v1

def fn_X2_setEnd (σ : SX) (p1 : Int32) (p2 : Int32) (p3 : Int32) : Option (SX) :=
  (arow p2).bind fun (r1 : Nat) =>
  (as_ σ (13 + r1) 12 p1 p3).bind fun (σ2 : SX) =>
  letb ((1 <<< (p1 &&& 31))) fun (v3 : Int32) =>
  letb (fun (z2_47 : Int32) => (as_ σ2 5 6 p2 z2_47).bind fun (σ4 : SX) =>
  some σ4) fun (K47 : Int32 → Option (SX)) =>
  if ¬ p3 = (-1) then
  ((ag σ2 5 6 p2).bind fun (v5 : Int32) =>
  K47 ((v5 ||| v3)))
  else
  ((ag σ2 5 6 p2).bind fun (v6 : Int32) =>
  K47 ((v6 &&& (v3 ^^^ (-1)))))

def bd_X2_beginsOfStepsTo_5 (σ : SX) (p1 : Int32) (p2 : Int32) (rec5 : Int32 → Int32 → Option (Int32)) (x3_5 : Int32) (x4_5 : Int32) : Option (Int32) :=
  if (σ.1 0) ≤ x4_5 then
  (some x3_5)
  else
  ((arow p2).bind fun (r3 : Nat) =>
  (ag σ (13 + r3) 12 x4_5).bind fun (v4 : Int32) =>
  letb (fun (y3_34 : Int32) => letb (x4_5 + 1) fun (v5 : Int32) =>
  rec5 y3_34 v5) fun (K34 : Int32 → Option (Int32)) =>
  if ¬ v4 = p1 then
  (K34 x3_5)
  else
  (letb ((x3_5 ||| (1 <<< (x4_5 &&& 31)))) fun (v6 : Int32) =>
  K34 v6))

def fn_X2_beginsOfStepsTo (σ : SX) (p1 : Int32) (p2 : Int32) : Option (Int32) :=
  letb (0) fun (v1 : Int32) =>
  letb (0) fun (v2 : Int32) =>
  loopF FU (bd_X2_beginsOfStepsTo_5 σ p1 p2) (fun _ _ => none) v1 v2

def bd_X2_learnHalf_30 (p3 : Nat) (rec3 : Int32 → SX → Option (SX)) (x4_3 : Int32) (v3 : Int32) (v4 : Int32) (rec30 : Int32 → SX → Option (SX)) (x7_30 : Int32) (σ_30 : SX) : Option (SX) :=
  if v4 ≤ x7_30 then
  (letb (x4_3 + 1) fun (v6 : Int32) =>
  rec3 v6 σ_30)
  else
  ((ag σ_30 p3 64 x7_30).bind fun (v7 : Int32) =>
  (as_ σ_30 p3 64 ((v4 ||| x7_30)) ((v7 ||| v3))).bind fun (σ8 : SX) =>
  letb (x7_30 + 1) fun (v9 : Int32) =>
  rec30 v9 σ8)

def bd_X2_learnHalf_3 (p1 : Int32) (p2 : Int32) (p3 : Nat) (rec3 : Int32 → SX → Option (SX)) (x4_3 : Int32) (σ_3 : SX) : Option (SX) :=
  if 6 ≤ x4_3 then
  (some σ_3)
  else
  ((fn_X2_beginsOfStepsTo σ_3 ((p2 + x4_3)) p1).bind fun (v2 : Int32) =>
  letb (v2) fun (v3 : Int32) =>
  letb ((1 <<< (x4_3 &&& 31))) fun (v4 : Int32) =>
  letb (0) fun (v5 : Int32) =>
  loopF FU (bd_X2_learnHalf_30 p3 rec3 x4_3 v3 v4) (fun _ _ => none) v5 σ_3)

def fn_X2_learnHalf (σ : SX) (p1 : Int32) (p2 : Int32) (p3 : Nat) : Option (SX) :=
  letb (0) fun (v1 : Int32) =>
  loopF FU (bd_X2_learnHalf_3 p1 p2 p3) (fun _ _ => none) v1 σ

def fn_X2_learnSources (σ : SX) (p1 : Int32) : Option (SX) :=
  (arow p1).bind fun (r1 : Nat) =>
  (fn_X2_learnHalf σ p1 0 (19 + r1)).bind fun (σ2 : SX) =>
  (arow p1).bind fun (r3 : Nat) =>
  (fn_X2_learnHalf σ2 p1 6 (25 + r3)).bind fun (σ4 : SX) =>
  some σ4

def fn_X2_put (σ : SX) (p1 : Int32) (p2 : Int32) (p3 : Int32) : Option (SX) :=
  (fn_X2_setEnd σ p1 p2 p3).bind fun (σ1 : SX) =>
  (fn_X2_learnSources σ1 p2).bind fun (σ2 : SX) =>
  some σ2

def fn_X2_way (σ : SX) (p1 : Int32) (p2 : Int32) : Option (Int32) :=
  (ag σ 5 6 p2).bind fun (v1 : Int32) =>
  letb (v1) fun (v2 : Int32) =>
  letb ((v2 &&& p1)) fun (v3 : Int32) =>
  (arow p2).bind fun (r4 : Nat) =>
  (ag σ (19 + r4) 64 ((p1 &&& 63))).bind fun (v5 : Int32) =>
  (arow p2).bind fun (r6 : Nat) =>
  (ag σ (25 + r6) 64 (((p1 >>> (6 &&& 31)) &&& 63))).bind fun (v7 : Int32) =>
  letb ((v5 ||| v7)) fun (v8 : Int32) =>
  if ¬ v3 = v8 then
  (letb (fun (_u : Unit) => letb (fun (_u : Unit) => some 3) fun (K75 : Unit → Option (Int32)) =>
  if ¬ v8 = 0 then
  (K75 ())
  else
  (if ¬ v3 = v2 then
  (K75 ())
  else
  (some 2))) fun (K62 : Unit → Option (Int32)) =>
  if ¬ v3 = 0 then
  (K62 ())
  else
  (if ¬ v8 = v2 then
  (K62 ())
  else
  (some 1)))
  else
  (some 0)

def bd_X2_firstMixed_2 (σ : SX) (p1 : Int32) (rec2 : Int32 → Option (Int32)) (x2_2 : Int32) : Option (Int32) :=
  if 6 ≤ x2_2 then
  (some ((-1)))
  else
  ((fn_X2_way σ p1 x2_2).bind fun (v2 : Int32) =>
  if ¬ v2 = 3 then
  (letb (x2_2 + 1) fun (v3 : Int32) =>
  rec2 v3)
  else
  (some x2_2))

def fn_X2_firstMixed (σ : SX) (p1 : Int32) : Option (Int32) :=
  letb (0) fun (v1 : Int32) =>
  loopF FU (bd_X2_firstMixed_2 σ p1) (fun _ => none) v1

def bd_X2_endsOf_4 (σ : SX) (p1 : Int32) (rec4 : Int32 → Int32 → Option (Int32)) (x2_4 : Int32) (x3_4 : Int32) : Option (Int32) :=
  if (σ.1 0) ≤ x3_4 then
  (some x2_4)
  else
  ((arow p1).bind fun (r3 : Nat) =>
  (ag σ (13 + r3) 12 x3_4).bind fun (v4 : Int32) =>
  letb (v4) fun (v5 : Int32) =>
  letb (fun (y2_35 : Int32) => letb (x3_4 + 1) fun (v6 : Int32) =>
  rec4 y2_35 v6) fun (K35 : Int32 → Option (Int32)) =>
  if v5 = (-1) then
  (K35 x2_4)
  else
  (letb ((x2_4 ||| (1 <<< (v5 &&& 31)))) fun (v7 : Int32) =>
  K35 v7))

def fn_X2_endsOf (σ : SX) (p1 : Int32) : Option (Int32) :=
  letb (0) fun (v1 : Int32) =>
  letb (0) fun (v2 : Int32) =>
  loopF FU (bd_X2_endsOf_4 σ p1) (fun _ _ => none) v1 v2

def fn_X2_growth (σ : SX) (p1 : Int32) (p2 : Int32) : Option (Int32) :=
  (ag σ 5 6 p2).bind fun (v1 : Int32) =>
  letb (v1) fun (v2 : Int32) =>
  (fn_X2_endsOf σ p2).bind fun (v3 : Int32) =>
  letb (v3) fun (v4 : Int32) =>
  letb (fun (_u : Unit) => if (v4 &&& (p1 ^^^ (-1))) = 0 then
  (some v2)
  else
  (some v4)) fun (K29 : Unit → Option (Int32)) =>
  if (v2 &&& p1) = 0 then
  (K29 ())
  else
  (if ¬ (v4 &&& p1) = 0 then
  (K29 ())
  else
  (some v2))

def bd_X2_grown_4 (σ : SX) (rec4 : Int32 → Int32 → Option (Int32)) (x2_4 : Int32) (x3_4 : Int32) : Option (Int32) :=
  if 12 ≤ x3_4 then
  (some x2_4)
  else
  ((fn_X2_firstMixed σ x2_4).bind fun (v3 : Int32) =>
  letb (v3) fun (v4 : Int32) =>
  if ¬ v4 = (-1) then
  ((fn_X2_growth σ x2_4 v4).bind fun (v5 : Int32) =>
  letb ((x2_4 ||| v5)) fun (v6 : Int32) =>
  letb (x3_4 + 1) fun (v7 : Int32) =>
  rec4 v6 v7)
  else
  (some x2_4))

def fn_X2_grown (σ : SX) (p1 : Int32) : Option (Int32) :=
  letb (p1) fun (v1 : Int32) =>
  letb (0) fun (v2 : Int32) =>
  loopF FU (bd_X2_grown_4 σ) (fun _ _ => none) v1 v2

def bd_X2_nextStates_13 (σ : SX) (p1 : Int32) (rec4 : Int32 → Int32 → Option (Int32)) (x3_4 : Int32) (rec13 : Int32 → Int32 → Option (Int32)) (x2_13 : Int32) (x4_13 : Int32) : Option (Int32) :=
  if (σ.1 0) ≤ x4_13 then
  (letb (x3_4 + 1) fun (v4 : Int32) =>
  rec4 x2_13 v4)
  else
  ((arow x3_4).bind fun (r5 : Nat) =>
  (ag σ (13 + r5) 12 x4_13).bind fun (v6 : Int32) =>
  letb (v6) fun (v7 : Int32) =>
  letb (fun (y2_55 : Int32) => letb (x4_13 + 1) fun (v8 : Int32) =>
  rec13 y2_55 v8) fun (K55 : Int32 → Option (Int32)) =>
  if v7 = (-1) then
  (K55 x2_13)
  else
  ((fn_X3_has σ p1 x4_13).bind fun (v9 : Int32) =>
  if v9 = 0 then
  (K55 x2_13)
  else
  (letb ((x2_13 ||| (1 <<< (v7 &&& 31)))) fun (v10 : Int32) =>
  K55 v10)))

def bd_X2_nextStates_4 (σ : SX) (p1 : Int32) (rec4 : Int32 → Int32 → Option (Int32)) (x2_4 : Int32) (x3_4 : Int32) : Option (Int32) :=
  if 6 ≤ x3_4 then
  (some x2_4)
  else
  (letb (0) fun (v3 : Int32) =>
  loopF FU (bd_X2_nextStates_13 σ p1 rec4 x3_4) (fun _ _ => none) x2_4 v3)

def fn_X2_nextStates (σ : SX) (p1 : Int32) : Option (Int32) :=
  letb (0) fun (v1 : Int32) =>
  letb (0) fun (v2 : Int32) =>
  loopF FU (bd_X2_nextStates_4 σ p1) (fun _ _ => none) v1 v2

def bd_X2_reachedStates_4 (σ : SX) (rec4 : Int32 → Int32 → Option (Int32)) (x1_4 : Int32) (x2_4 : Int32) : Option (Int32) :=
  if (σ.1 0) ≤ x2_4 then
  (some x1_4)
  else
  ((fn_X2_nextStates σ x1_4).bind fun (v3 : Int32) =>
  letb ((x1_4 ||| v3)) fun (v4 : Int32) =>
  letb (x2_4 + 1) fun (v5 : Int32) =>
  rec4 v4 v5)

def fn_X2_reachedStates (σ : SX)  : Option (Int32) :=
  letb (1) fun (v1 : Int32) =>
  letb (1) fun (v2 : Int32) =>
  loopF FU (bd_X2_reachedStates_4 σ) (fun _ _ => none) v1 v2

def fn_X2_statePairs (σ : SX)  : Option (Int32) :=
  some ((((σ.1 0) * ((σ.1 0) - 1)) / 2))

def fn_X2_stopsOf (σ : SX) (p1 : Int32) : Option (Int32) :=
  (ag σ 5 6 p1).bind fun (v1 : Int32) =>
  if ¬ v1 = 0 then
  ((fn_X2_all σ).bind fun (v2 : Int32) =>
  (ag σ 5 6 p1).bind fun (v3 : Int32) =>
  some ((v2 &&& (v3 ^^^ (-1)))))
  else
  (some 0)

def bd_X2_stopPairs_4 (σ : SX) (rec4 : Int32 → Int32 → Option (Int32)) (x1_4 : Int32) (x2_4 : Int32) : Option (Int32) :=
  if 6 ≤ x2_4 then
  (some x1_4)
  else
  ((fn_X2_stopsOf σ x2_4).bind fun (v3 : Int32) =>
  (fn_J6_bitCount v3).bind fun (v4 : Int32) =>
  letb ((x1_4 + v4)) fun (v5 : Int32) =>
  letb (x2_4 + 1) fun (v6 : Int32) =>
  rec4 v5 v6)

def fn_X2_stopPairs (σ : SX)  : Option (Int32) :=
  letb (0) fun (v1 : Int32) =>
  letb (0) fun (v2 : Int32) =>
  loopF FU (bd_X2_stopPairs_4 σ) (fun _ _ => none) v1 v2

def fn_X1_isOne (σ : SX) (p1 : Int32) : Option (Int32) :=
  letb (fun (_u : Unit) => zr 0) fun (K31 : Unit → Option (Int32)) =>
  if p1 = 0 then
  (K31 ())
  else
  ((fn_X2_all σ).bind fun (v1 : Int32) =>
  if p1 = v1 then
  (K31 ())
  else
  ((fn_X2_firstMixed σ p1).bind fun (v2 : Int32) =>
  if ¬ v2 = (-1) then
  (K31 ())
  else
  (zr 1)))

def bd_X1_search_15 (v3 : Int32) (rec15 : Int32 → SX → Option (SX)) (x2_15 : Int32) (σ_15 : SX) : Option (SX) :=
  if v3 ≤ x2_15 then
  (some σ_15)
  else
  ((fn_X2_firstMixed σ_15 x2_15).bind fun (v5 : Int32) =>
  letb (fun (τ_62 : SX) => letb (x2_15 + 1) fun (v6 : Int32) =>
  rec15 v6 τ_62) fun (K62 : SX → Option (SX)) =>
  if ¬ v5 = (-1) then
  (K62 σ_15)
  else
  (if 4094 ≤ (σ_15.1 1) then
  (K62 σ_15)
  else
  ((as_ σ_15 8 4094 ((σ_15.1 1)) x2_15).bind fun (σ7 : SX) =>
  letb (ss σ7 1 (((σ7.1 1) + 1))) fun (σ8 : SX) =>
  K62 σ8)))

def fn_X1_search (σ : SX)  : Option (SX) :=
  letb (ss σ 1 0) fun (σ1 : SX) =>
  (fn_X2_all σ1).bind fun (v2 : Int32) =>
  letb (v2) fun (v3 : Int32) =>
  letb (1) fun (v4 : Int32) =>
  loopF FU (bd_X1_search_15 v3) (fun _ _ => none) v4 σ1

def fn_X1_count (σ : SX)  : Option (Int32 × SX) :=
  letb (fun (τ_16 : SX) => some ((τ_16.1 1), τ_16)) fun (K16 : SX → Option (Int32 × SX)) =>
  if ¬ (σ.1 2) = 0 then
  (K16 σ)
  else
  ((fn_X1_search σ).bind fun (σ1 : SX) =>
  letb (ss σ1 2 1) fun (σ2 : SX) =>
  K16 σ2)

def fn_X1_at (σ : SX) (p1 : Int32) : Option (Int32) :=
  (ag σ 8 4094 p1).bind fun (v1 : Int32) =>
  some v1

def bd_X1_hasNoPart_2 (σ : SX) (p1 : Int32) (rec2 : Int32 → Option (Int32)) (x2_2 : Int32) : Option (Int32) :=
  if p1 ≤ x2_2 then
  (zr 1)
  else
  ((ag σ 8 4094 x2_2).bind fun (v2 : Int32) =>
  (ag σ 8 4094 p1).bind fun (v3 : Int32) =>
  if ¬ (v2 &&& (v3 ^^^ (-1))) = 0 then
  (letb (x2_2 + 1) fun (v4 : Int32) =>
  rec2 v4)
  else
  (zr 0))

def fn_X1_hasNoPart (σ : SX) (p1 : Int32) : Option (Int32) :=
  letb (0) fun (v1 : Int32) =>
  loopF FU (bd_X1_hasNoPart_2 σ p1) (fun _ => none) v1

def bd_X1_firstApart_8 (p1 : Int32) (p2 : Int32) (σ1 : SX) (v3 : Int32) (rec8 : Int32 → Option (Int32 × SX)) (x4_8 : Int32) : Option (Int32 × SX) :=
  if v3 ≤ x4_8 then
  (some ((-1), σ1))
  else
  ((ag σ1 8 4094 x4_8).bind fun (v5 : Int32) =>
  (fn_X3_has σ1 v5 p1).bind fun (v6 : Int32) =>
  (ag σ1 8 4094 x4_8).bind fun (v7 : Int32) =>
  (fn_X3_has σ1 v7 p2).bind fun (v8 : Int32) =>
  if v6 = v8 then
  (letb (x4_8 + 1) fun (v9 : Int32) =>
  rec8 v9)
  else
  (some (x4_8, σ1)))

def fn_X1_firstApart (σ : SX) (p1 : Int32) (p2 : Int32) : Option (Int32 × SX) :=
  bind2 (fn_X1_count σ) fun (v2 : Int32) (σ1 : SX) =>
  letb (v2) fun (v3 : Int32) =>
  letb (0) fun (v4 : Int32) =>
  loopF FU (bd_X1_firstApart_8 p1 p2 σ1 v3) (fun _ => none) v4

def bd_X1_pairsNotApart_19 (rec4 : Int32 → Int32 → SX → Option (Int32 × SX)) (x2_4 : Int32) (rec19 : Int32 → Int32 → SX → Option (Int32 × SX)) (x1_19 : Int32) (x3_19 : Int32) (σ_19 : SX) : Option (Int32 × SX) :=
  if (σ_19.1 0) ≤ x3_19 then
  (letb (x2_4 + 1) fun (v4 : Int32) =>
  rec4 x1_19 v4 σ_19)
  else
  (bind2 (fn_X1_firstApart σ_19 x2_4 x3_19) fun (v6 : Int32) (σ5 : SX) =>
  letb (fun (y1_43 : Int32) => letb (x3_19 + 1) fun (v7 : Int32) =>
  rec19 y1_43 v7 σ5) fun (K43 : Int32 → Option (Int32 × SX)) =>
  if ¬ v6 = (-1) then
  (K43 x1_19)
  else
  (letb (x1_19 + 1) fun (v8 : Int32) =>
  K43 v8))

def bd_X1_pairsNotApart_4 (rec4 : Int32 → Int32 → SX → Option (Int32 × SX)) (x1_4 : Int32) (x2_4 : Int32) (σ_4 : SX) : Option (Int32 × SX) :=
  if (σ_4.1 0) ≤ x2_4 then
  (some (x1_4, σ_4))
  else
  (letb ((x2_4 + 1)) fun (v3 : Int32) =>
  loopF FU (bd_X1_pairsNotApart_19 rec4 x2_4) (fun _ _ _ => none) x1_4 v3 σ_4)

def fn_X1_pairsNotApart (σ : SX)  : Option (Int32 × SX) :=
  letb (0) fun (v1 : Int32) =>
  letb (0) fun (v2 : Int32) =>
  loopF FU (bd_X1_pairsNotApart_4) (fun _ _ _ => none) v1 v2 σ

def bd_X1_preventedIn_10 (p1 : Int32) (σ2 : SX) (v4 : Int32) (rec10 : Int32 → Int32 → Option (Int32 × SX)) (x2_10 : Int32) (x4_10 : Int32) : Option (Int32 × SX) :=
  if v4 ≤ x4_10 then
  (some (x2_10, σ2))
  else
  ((ag σ2 8 4094 x4_10).bind fun (v6 : Int32) =>
  (fn_X2_way σ2 v6 p1).bind fun (v7 : Int32) =>
  letb (v7) fun (v8 : Int32) =>
  letb (fun (y2_70 : Int32) => letb (x4_10 + 1) fun (v9 : Int32) =>
  rec10 y2_70 v9) fun (K70 : Int32 → Option (Int32 × SX)) =>
  if ¬ v8 = 2 then
  (if ¬ v8 = 1 then
  (K70 x2_10)
  else
  ((ag σ2 8 4094 x4_10).bind fun (v10 : Int32) =>
  letb ((x2_10 ||| v10)) fun (v11 : Int32) =>
  K70 v11))
  else
  ((ag σ2 8 4094 x4_10).bind fun (v12 : Int32) =>
  letb ((x2_10 ||| (v12 ^^^ (-1)))) fun (v13 : Int32) =>
  K70 v13))

def fn_X1_preventedIn (σ : SX) (p1 : Int32) : Option (Int32 × SX) :=
  letb (0) fun (v1 : Int32) =>
  bind2 (fn_X1_count σ) fun (v3 : Int32) (σ2 : SX) =>
  letb (v3) fun (v4 : Int32) =>
  letb (0) fun (v5 : Int32) =>
  loopF FU (bd_X1_preventedIn_10 p1 σ2 v4) (fun _ _ => none) v1 v5

def bd_X1_pairsNotPrevented_4 (rec4 : Int32 → Int32 → SX → Option (Int32 × SX)) (x1_4 : Int32) (x2_4 : Int32) (σ_4 : SX) : Option (Int32 × SX) :=
  if 6 ≤ x2_4 then
  (some (x1_4, σ_4))
  else
  ((fn_X2_stopsOf σ_4 x2_4).bind fun (v3 : Int32) =>
  bind2 (fn_X1_preventedIn σ_4 x2_4) fun (v5 : Int32) (σ4 : SX) =>
  (fn_J6_bitCount ((v3 &&& (v5 ^^^ (-1))))).bind fun (v6 : Int32) =>
  letb ((x1_4 + v6)) fun (v7 : Int32) =>
  letb (x2_4 + 1) fun (v8 : Int32) =>
  rec4 v7 v8 σ4)

def fn_X1_pairsNotPrevented (σ : SX)  : Option (Int32 × SX) :=
  letb (0) fun (v1 : Int32) =>
  letb (0) fun (v2 : Int32) =>
  loopF FU (bd_X1_pairsNotPrevented_4) (fun _ _ _ => none) v1 v2 σ

def bd_X0_holdsPlace_2 (σ : SX) (p1 : Int32) (rec2 : Int32 → Option (Int32)) (x2_2 : Int32) : Option (Int32) :=
  if (σ.1 4) ≤ x2_2 then
  (zr 0)
  else
  ((ag σ 9 30 x2_2).bind fun (v2 : Int32) =>
  if ¬ (v2 &&& (p1 ^^^ (-1))) = 0 then
  (letb (x2_2 + 1) fun (v3 : Int32) =>
  rec2 v3)
  else
  (zr 1))

def fn_X0_holdsPlace (σ : SX) (p1 : Int32) : Option (Int32) :=
  letb (0) fun (v1 : Int32) =>
  loopF FU (bd_X0_holdsPlace_2 σ p1) (fun _ => none) v1

def bd_X0_choosePlaces_15 (v4 : Int32) (rec15 : Int32 → SX → Option (SX)) (x2_15 : Int32) (σ_15 : SX) : Option (SX) :=
  if v4 ≤ x2_15 then
  (some σ_15)
  else
  (if 30 ≤ (σ_15.1 4) then
  (some σ_15)
  else
  ((fn_X1_at σ_15 x2_15).bind fun (v6 : Int32) =>
  letb (v6) fun (v7 : Int32) =>
  (fn_X0_holdsPlace σ_15 v7).bind fun (v8 : Int32) =>
  letb (fun (τ_66 : SX) => letb (x2_15 + 1) fun (v9 : Int32) =>
  rec15 v9 τ_66) fun (K66 : SX → Option (SX)) =>
  if ¬ v8 = 0 then
  (K66 σ_15)
  else
  ((as_ σ_15 9 30 ((σ_15.1 4)) v7).bind fun (σ10 : SX) =>
  letb (ss σ10 4 (((σ10.1 4) + 1))) fun (σ11 : SX) =>
  K66 σ11)))

def fn_X0_choosePlaces (σ : SX)  : Option (SX) :=
  letb (ss σ 4 0) fun (σ1 : SX) =>
  bind2 (fn_X1_count σ1) fun (v3 : Int32) (σ2 : SX) =>
  letb (v3) fun (v4 : Int32) =>
  letb (0) fun (v5 : Int32) =>
  loopF FU (bd_X0_choosePlaces_15 v4) (fun _ _ => none) v5 σ2

def bd_X0_placesCrossed_5 (σ : SX) (p1 : Int32) (p2 : Int32) (rec5 : Int32 → Int32 → Option (Int32)) (x3_5 : Int32) (x4_5 : Int32) : Option (Int32) :=
  if (σ.1 4) ≤ x4_5 then
  (some x3_5)
  else
  ((ag σ 9 30 x4_5).bind fun (v3 : Int32) =>
  (fn_X2_way σ v3 p1).bind fun (v4 : Int32) =>
  letb (fun (y3_40 : Int32) => letb (x4_5 + 1) fun (v5 : Int32) =>
  rec5 y3_40 v5) fun (K40 : Int32 → Option (Int32)) =>
  if ¬ v4 = p2 then
  (K40 x3_5)
  else
  (letb ((x3_5 ||| (1 <<< (x4_5 &&& 31)))) fun (v6 : Int32) =>
  K40 v6))

def fn_X0_placesCrossed (σ : SX) (p1 : Int32) (p2 : Int32) : Option (Int32) :=
  letb (0) fun (v1 : Int32) =>
  letb (0) fun (v2 : Int32) =>
  loopF FU (bd_X0_placesCrossed_5 σ p1 p2) (fun _ _ => none) v1 v2

def bd_X0_placesWith_4 (σ : SX) (p1 : Int32) (rec4 : Int32 → Int32 → Option (Int32)) (x2_4 : Int32) (x3_4 : Int32) : Option (Int32) :=
  if (σ.1 4) ≤ x3_4 then
  (some x2_4)
  else
  ((ag σ 9 30 x3_4).bind fun (v3 : Int32) =>
  (fn_X3_has σ v3 p1).bind fun (v4 : Int32) =>
  letb (fun (y2_31 : Int32) => letb (x3_4 + 1) fun (v5 : Int32) =>
  rec4 y2_31 v5) fun (K31 : Int32 → Option (Int32)) =>
  if v4 = 0 then
  (K31 x2_4)
  else
  (letb ((x2_4 ||| (1 <<< (x3_4 &&& 31)))) fun (v6 : Int32) =>
  K31 v6))

def fn_X0_placesWith (σ : SX) (p1 : Int32) : Option (Int32) :=
  letb (0) fun (v1 : Int32) =>
  letb (0) fun (v2 : Int32) =>
  loopF FU (bd_X0_placesWith_4 σ p1) (fun _ _ => none) v1 v2

def bd_X0_make_6 (rec6 : Int32 → SX → Option (SX)) (x1_6 : Int32) (σ_6 : SX) : Option (SX) :=
  if 6 ≤ x1_6 then
  ((fn_X0_placesWith σ_6 0).bind fun (v3 : Int32) =>
  letb (ss σ_6 5 v3) fun (σ4 : SX) =>
  letb (ss σ4 7 0) fun (σ5 : SX) =>
  letb (ss σ5 3 1) fun (σ6 : SX) =>
  some σ6)
  else
  ((fn_X0_placesCrossed σ_6 x1_6 2).bind fun (v7 : Int32) =>
  (as_ σ_6 10 6 x1_6 v7).bind fun (σ8 : SX) =>
  (fn_X0_placesCrossed σ8 x1_6 1).bind fun (v9 : Int32) =>
  (as_ σ8 11 6 x1_6 v9).bind fun (σ10 : SX) =>
  letb (x1_6 + 1) fun (v11 : Int32) =>
  rec6 v11 σ10)

def fn_X0_make (σ : SX)  : Option (SX) :=
  (fn_X0_choosePlaces σ).bind fun (σ1 : SX) =>
  letb (0) fun (v2 : Int32) =>
  loopF FU (bd_X0_make_6) (fun _ _ => none) v2 σ1

def fn_X0_regionOf (σ : SX) (p1 : Int32) : Option (Int32) :=
  (ag σ 9 30 p1).bind fun (v1 : Int32) =>
  some v1

def fn_X0_canFire (σ : SX) (p1 : Int32) (p2 : Int32) : Option (Int32) :=
  (fn_X2_beginning σ p1).bind fun (v1 : Int32) =>
  letb (fun (_u : Unit) => zr 0) fun (K43 : Unit → Option (Int32)) =>
  if v1 = 0 then
  (K43 ())
  else
  ((ag σ 10 6 p1).bind fun (v2 : Int32) =>
  (ag σ 10 6 p1).bind fun (v3 : Int32) =>
  if ¬ (p2 &&& v2) = v3 then
  (K43 ())
  else
  ((ag σ 11 6 p1).bind fun (v4 : Int32) =>
  if ¬ (p2 &&& v4) = 0 then
  (K43 ())
  else
  (zr 1)))

def fn_X0_behind (σ : SX) (p1 : Int32) (p2 : Int32) : Option (Int32) :=
  (ag σ 10 6 p1).bind fun (v1 : Int32) =>
  (ag σ 11 6 p1).bind fun (v2 : Int32) =>
  some (((p2 &&& (v1 ^^^ (-1))) ||| v2))

def bd_X0_keepNew_13 (σ : SX) (p1 : Int32) (rec13 : Int32 → Option (SX)) (x2_13 : Int32) : Option (SX) :=
  if (σ.1 7) ≤ x2_13 then
  ((as_ σ 12 200 ((σ.1 7)) p1).bind fun (σ2 : SX) =>
  letb (ss σ2 7 (((σ2.1 7) + 1))) fun (σ3 : SX) =>
  some σ3)
  else
  ((ag σ 12 200 x2_13).bind fun (v4 : Int32) =>
  if ¬ v4 = p1 then
  (letb (x2_13 + 1) fun (v5 : Int32) =>
  rec13 v5)
  else
  (some σ))

def fn_X0_keepNew (σ : SX) (p1 : Int32) : Option (SX) :=
  if (σ.1 7) < 200 then
  (letb (0) fun (v1 : Int32) =>
  loopF FU (bd_X0_keepNew_13 σ p1) (fun _ => none) v1)
  else
  (some σ)

def bd_X0_findMarkings_34 (rec17 : Int32 → SX → Option (SX)) (x1_17 : Int32) (rec34 : Int32 → SX → Option (SX)) (x2_34 : Int32) (σ_34 : SX) : Option (SX) :=
  if 6 ≤ x2_34 then
  (letb (x1_17 + 1) fun (v5 : Int32) =>
  rec17 v5 σ_34)
  else
  ((ag σ_34 12 200 x1_17).bind fun (v6 : Int32) =>
  (fn_X0_canFire σ_34 x2_34 v6).bind fun (v7 : Int32) =>
  letb (fun (τ_69 : SX) => letb (x2_34 + 1) fun (v8 : Int32) =>
  rec34 v8 τ_69) fun (K69 : SX → Option (SX)) =>
  if v7 = 0 then
  (K69 σ_34)
  else
  ((ag σ_34 12 200 x1_17).bind fun (v9 : Int32) =>
  (fn_X0_behind σ_34 x2_34 v9).bind fun (v10 : Int32) =>
  (fn_X0_keepNew σ_34 v10).bind fun (σ11 : SX) =>
  K69 σ11))

def bd_X0_findMarkings_17 (rec17 : Int32 → SX → Option (SX)) (x1_17 : Int32) (σ_17 : SX) : Option (SX) :=
  if 200 ≤ x1_17 then
  (some σ_17)
  else
  (if (σ_17.1 7) ≤ x1_17 then
  (some σ_17)
  else
  (letb (0) fun (v4 : Int32) =>
  loopF FU (bd_X0_findMarkings_34 rec17 x1_17) (fun _ _ => none) v4 σ_17))

def fn_X0_findMarkings (σ : SX)  : Option (SX) :=
  (as_ σ 12 200 0 ((σ.1 5))).bind fun (σ1 : SX) =>
  letb (ss σ1 7 1) fun (σ2 : SX) =>
  letb (0) fun (v3 : Int32) =>
  loopF FU (bd_X0_findMarkings_17) (fun _ _ => none) v3 σ2

def fn_X0_markingsFound (σ : SX)  : Option (Int32 × SX) :=
  letb (fun (τ_11 : SX) => some ((τ_11.1 7), τ_11)) fun (K11 : SX → Option (Int32 × SX)) =>
  if ¬ (σ.1 7) = 0 then
  (K11 σ)
  else
  ((fn_X0_findMarkings σ).bind fun (σ1 : SX) =>
  K11 σ1)

def bd_X0_isMatched_60 (σ : SX) (p1 : Int32) (p2 : Int32) (v2 : Int32) (rec60 : Int32 → Option (Int32)) (x4_60 : Int32) : Option (Int32) :=
  if p1 ≤ x4_60 then
  (zr 1)
  else
  ((fn_X3_has σ p2 x4_60).bind fun (v5 : Int32) =>
  letb (fun (_u : Unit) => letb (x4_60 + 1) fun (v6 : Int32) =>
  rec60 v6) fun (K87 : Unit → Option (Int32)) =>
  if v5 = 0 then
  (K87 ())
  else
  ((fn_X0_placesWith σ x4_60).bind fun (v7 : Int32) =>
  if ¬ v7 = v2 then
  (K87 ())
  else
  (zr 0)))

def bd_X0_isMatched_9 (σ : SX) (p1 : Int32) (p2 : Int32) (v2 : Int32) (rec9 : Int32 → Option (Int32)) (x4_9 : Int32) : Option (Int32) :=
  if 6 ≤ x4_9 then
  (letb (0) fun (v4 : Int32) =>
  loopF FU (bd_X0_isMatched_60 σ p1 p2 v2) (fun _ => none) v4)
  else
  ((fn_X2_end σ p1 x4_9).bind fun (v8 : Int32) =>
  letb (fun (z0_35 : Int32) => letb (z0_35) fun (v9 : Int32) =>
  (fn_X0_canFire σ x4_9 v2).bind fun (v10 : Int32) =>
  if v10 = v9 then
  (letb (x4_9 + 1) fun (v11 : Int32) =>
  rec9 v11)
  else
  (zr 0)) fun (K35 : Int32 → Option (Int32)) =>
  if v8 = (-1) then
  (K35 0)
  else
  (K35 1))

def fn_X0_isMatched (σ : SX) (p1 : Int32) (p2 : Int32) : Option (Int32) :=
  (fn_X0_placesWith σ p1).bind fun (v1 : Int32) =>
  letb (v1) fun (v2 : Int32) =>
  letb (0) fun (v3 : Int32) =>
  loopF FU (bd_X0_isMatched_9 σ p1 p2 v2) (fun _ => none) v3

def bd_X0_behavesLikeSystem_10 (σ : SX) (v2 : Int32) (rec10 : Int32 → Option (Int32)) (x2_10 : Int32) : Option (Int32) :=
  if (σ.1 0) ≤ x2_10 then
  (zr 1)
  else
  ((fn_X3_has σ v2 x2_10).bind fun (v4 : Int32) =>
  letb (fun (_u : Unit) => letb (x2_10 + 1) fun (v5 : Int32) =>
  rec10 v5) fun (K40 : Unit → Option (Int32)) =>
  if v4 = 0 then
  (K40 ())
  else
  ((fn_X0_isMatched σ x2_10 v2).bind fun (v6 : Int32) =>
  if ¬ v6 = 0 then
  (K40 ())
  else
  (zr 0)))

def fn_X0_behavesLikeSystem (σ : SX)  : Option (Int32) :=
  (fn_X2_reachedStates σ).bind fun (v1 : Int32) =>
  letb (v1) fun (v2 : Int32) =>
  letb (0) fun (v3 : Int32) =>
  loopF FU (bd_X0_behavesLikeSystem_10 σ v2) (fun _ => none) v3

def fn_X3_changed (σ : SX)  : Option (SX) :=
  letb (ss σ 2 0) fun (σ1 : SX) =>
  letb (ss σ1 3 0) fun (σ2 : SX) =>
  some σ2

def fn_X3_reached (σ : SX)  : Option (Int32) :=
  (fn_X2_reachedStates σ).bind fun (v1 : Int32) =>
  some v1

def fn_X3_regionCount (σ : SX)  : Option (Int32 × SX) :=
  bind2 (fn_X1_count σ) fun (v2 : Int32) (σ1 : SX) =>
  some (v2, σ1)

def fn_X3_lumps (σ : SX)  : Option (Int32 × SX) :=
  bind2 (fn_X1_pairsNotApart σ) fun (v2 : Int32) (σ1 : SX) =>
  some (v2, σ1)

def fn_X3_leaks (σ : SX)  : Option (Int32 × SX) :=
  bind2 (fn_X1_pairsNotPrevented σ) fun (v2 : Int32) (σ1 : SX) =>
  some (v2, σ1)

def fn_X3_makeNet (σ : SX)  : Option (Int32 × SX) :=
  letb (fun (τ_17 : SX) => letb (ss τ_17 6 ((τ_17.1 5))) fun (σ1 : SX) =>
  some ((σ1.1 4), σ1)) fun (K17 : SX → Option (Int32 × SX)) =>
  if ¬ (σ.1 3) = 0 then
  (K17 σ)
  else
  ((fn_X0_make σ).bind fun (σ2 : SX) =>
  K17 σ2)

def fn_X3_stateCount (σ : SX)  : Option (Int32) :=
  some ((σ.1 0))
