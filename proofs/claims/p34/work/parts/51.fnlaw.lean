/-! by wip/p34/gen.py: pure functions of the law -/
def bd_L_build_101 (L : Nat) (xs : Nat → Int32) (p3 : Int32) (v2 : Int32) (v4 : Int32) (v8 : Int32) (rec101 : Int32 → SX → Option (Int32 × SX)) (x8_101 : Int32) (σ_101 : SX) : Option (Int32 × SX) :=
  if v8 ≤ x8_101 then
  ((fn_X3_stateCount σ_101).bind fun (v10 : Int32) =>
  if ¬ v10 = v2 then
  (some ((-1), σ_101))
  else
  (some (v2, σ_101)))
  else
  ((nn (((p3 + 1) + (x8_101 - x8_101 / 6 * 6)))).bind fun (_ : Unit) =>
  letb (((celv L xs (((p3 + 1) + (x8_101 - x8_101 / 6 * 6)))) >>> (((x8_101 / 6) * 5) &&& 31))) fun (v11 : Int32) =>
  letb (fun (z0_163 : Int32) => letb (z0_163) fun (v12 : Int32) =>
  letb (fun (z0_200 : Int32) => letb (z0_200) fun (v13 : Int32) =>
  (fn_L_below ((v11 >>> (10 &&& 31))) v4).bind fun (v14 : Int32) =>
  letb (v14) fun (v15 : Int32) =>
  bind2 (fn_X3_step σ_101 v12 v15 v13) fun (v17 : Int32) (σ16 : SX) =>
  letb (mrg σ_101 σ16) fun (σ18 : SX) =>
  (ag σ18 31 72 (((6 * v12) + v15))).bind fun (v19 : Int32) =>
  if v17 = v19 then
  ((as_ σ18 31 72 (((6 * v12) + v15)) v13).bind fun (σ20 : SX) =>
  letb (x8_101 + 1) fun (v21 : Int32) =>
  rec101 v21 σ20)
  else
  (some ((-1), σ18))) fun (K200 : Int32 → Option (Int32 × SX)) =>
  letb (fun (_u : Unit) => (fn_L_below ((v11 >>> (6 &&& 31))) v2).bind fun (v22 : Int32) =>
  K200 v22) fun (K190 : Unit → Option (Int32 × SX)) =>
  if (v2 - 1) ≤ x8_101 then
  (K190 ())
  else
  ((fn_L_below v11 3).bind fun (v23 : Int32) =>
  if v23 ≤ 0 then
  (K190 ())
  else
  (K200 ((x8_101 + 1))))) fun (K163 : Int32 → Option (Int32 × SX)) =>
  letb (fun (_u : Unit) => (fn_L_below ((v11 >>> (2 &&& 31))) v2).bind fun (v24 : Int32) =>
  K163 v24) fun (K154 : Unit → Option (Int32 × SX)) =>
  if (v2 - 1) ≤ x8_101 then
  (K154 ())
  else
  ((fn_L_below v11 3).bind fun (v25 : Int32) =>
  if v25 ≤ 0 then
  (K154 ())
  else
  (K163 x8_101)))

def bd_L_build_55 (L : Nat) (xs : Nat → Int32) (p3 : Int32) (v2 : Int32) (v4 : Int32) (rec55 : Int32 → SX → Option (Int32 × SX)) (x7_55 : Int32) (σ_55 : SX) : Option (Int32 × SX) :=
  if v2 ≤ x7_55 then
  ((nn p3).bind fun (_ : Unit) =>
  (fn_L_below (((celv L xs p3) >>> (8 &&& 31))) (((2 * v2) + 4))).bind fun (v7 : Int32) =>
  letb (v7) fun (v8 : Int32) =>
  letb (0) fun (v9 : Int32) =>
  loopF FU (bd_L_build_101 L xs p3 v2 v4 v8) (fun _ _ => none) v9 σ_55)
  else
  (bind2 (fn_X3_addState σ_55) fun (v27 : Int32) (σ26 : SX) =>
  letb (mrg σ_55 σ26) fun (σ28 : SX) =>
  if v27 = x7_55 then
  (letb (x7_55 + 1) fun (v29 : Int32) =>
  rec55 v29 σ28)
  else
  (some ((-1), σ28)))

def bd_L_build_32 (L : Nat) (xs : Nat → Int32) (p3 : Int32) (v2 : Int32) (v4 : Int32) (rec32 : Int32 → SX → Option (Int32 × SX)) (x7_32 : Int32) (σ_32 : SX) : Option (Int32 × SX) :=
  if 72 ≤ x7_32 then
  (letb (1) fun (v6 : Int32) =>
  loopF FU (bd_L_build_55 L xs p3 v2 v4) (fun _ _ => none) v6 σ_32)
  else
  ((as_ σ_32 31 72 x7_32 ((-1))).bind fun (σ30 : SX) =>
  letb (x7_32 + 1) fun (v31 : Int32) =>
  rec32 v31 σ30)

def fn_L_build (σ : SX) (L : Nat) (xs : Nat → Int32) (p3 : Int32) (p4 : Int32) : Option (Int32 × SX) :=
  (nn p3).bind fun (_ : Unit) =>
  (fn_L_below ((celv L xs p3)) p4).bind fun (v1 : Int32) =>
  letb ((1 + v1)) fun (v2 : Int32) =>
  (nn p3).bind fun (_ : Unit) =>
  (fn_L_below (((celv L xs p3) >>> (4 &&& 31))) 6).bind fun (v3 : Int32) =>
  letb ((1 + v3)) fun (v4 : Int32) =>
  letb (0) fun (v5 : Int32) =>
  loopF FU (bd_L_build_32 L xs p3 v2 v4) (fun _ _ => none) v5 σ

def bd_L_law_441 (x6_48 : Int32) (K482 : Int32 → SX → Option (Int32 × SX)) (v35 : Int32) (v36 : Int32) (rec441 : Int32 → SX → Option (Int32 × SX)) (x12_441 : Int32) (σ_441 : SX) : Option (Int32 × SX) :=
  if (if 30 < x6_48 then 30 else x6_48) ≤ x12_441 then
  (K482 v36 σ_441)
  else
  (bind2 (fn_X3_placeRegion σ_441 x12_441) fun (v39 : Int32) (σ38 : SX) =>
  letb (mrg σ_441 σ38) fun (σ40 : SX) =>
  if ((v35 >>> (x12_441 &&& 31)) &&& 1) = ((v39 >>> (v36 &&& 31)) &&& 1) then
  (letb (x12_441 + 1) fun (v41 : Int32) =>
  rec441 v41 σ40)
  else
  (none))

def bd_L_law_369 (L : Nat) (xs : Nat → Int32) (x6_48 : Int32) (rec369 : Int32 → Int32 → SX → Option (Int32 × SX)) (x7_369 : Int32) (x8_369 : Int32) (σ_369 : SX) : Option (Int32 × SX) :=
  if 12 ≤ x8_369 then
  ((zr 1).bind fun w9 => some (w9, σ_369))
  else
  ((nn ((8 + (x8_369 - x8_369 / 8 * 8)))).bind fun (_ : Unit) =>
  (fn_L_below (((celv L xs ((8 + (x8_369 - x8_369 / 8 * 8)))) >>> ((x8_369 / 8) &&& 31))) 6).bind fun (v25 : Int32) =>
  letb (v25) fun (v26 : Int32) =>
  bind2 (fn_X3_target σ_369 x7_369 v26) fun (v28 : Int32) (σ27 : SX) =>
  letb (mrg σ_369 σ27) fun (σ29 : SX) =>
  letb (v28) fun (v30 : Int32) =>
  letb (fun (y7_482 : Int32) (τ_482 : SX) => letb (x8_369 + 1) fun (v31 : Int32) =>
  rec369 y7_482 v31 τ_482) fun (K482 : Int32 → SX → Option (Int32 × SX)) =>
  if 0 ≤ v30 then
  (bind2 (fn_X3_fire σ29 v26) fun (v33 : Int32) (σ32 : SX) =>
  letb (mrg σ29 σ32) fun (σ34 : SX) =>
  letb (v33) fun (v35 : Int32) =>
  if 0 ≤ v35 then
  (letb (v30) fun (v36 : Int32) =>
  letb (0) fun (v37 : Int32) =>
  loopF FU (bd_L_law_441 x6_48 K482 v35 v36) (fun _ _ => none) v37 σ34)
  else
  (none))
  else
  (K482 x7_369 σ29))

def bd_L_law_210 (v8 : Int32) (rec48 : Int32 → Int32 → SX → Option (Int32 × SX)) (x7_48 : Int32) (v70 : Int32) (rec210 : Int32 → Int32 → SX → Option (Int32 × SX)) (x9_210 : Int32) (x10_210 : Int32) (σ_210 : SX) : Option (Int32 × SX) :=
  if v8 ≤ x10_210 then
  (if x9_210 = 0 then
  (letb (x7_48 + 1) fun (v73 : Int32) =>
  rec48 v70 v73 σ_210)
  else
  (none))
  else
  (bind2 (fn_X3_isLeast σ_210 x10_210) fun (v75 : Int32) (σ74 : SX) =>
  letb (mrg σ_210 σ74) fun (σ76 : SX) =>
  letb (fun (y9_253 : Int32) (τ_253 : SX) => letb (x10_210 + 1) fun (v77 : Int32) =>
  rec210 y9_253 v77 τ_253) fun (K253 : Int32 → SX → Option (Int32 × SX)) =>
  if v75 = 0 then
  (K253 x9_210 σ76)
  else
  (bind2 (fn_X3_region σ76 x10_210) fun (v79 : Int32) (σ78 : SX) =>
  letb (mrg σ76 σ78) fun (σ80 : SX) =>
  if ¬ (v79 &&& (x9_210 ^^^ (-1))) = 0 then
  (K253 x9_210 σ80)
  else
  (bind2 (fn_X3_region σ80 x10_210) fun (v82 : Int32) (σ81 : SX) =>
  letb (mrg σ80 σ81) fun (σ83 : SX) =>
  letb ((x9_210 &&& (v82 ^^^ (-1)))) fun (v84 : Int32) =>
  K253 v84 σ83)))

def bd_L_law_120 (v4 : Int32) (v8 : Int32) (rec48 : Int32 → Int32 → SX → Option (Int32 × SX)) (x6_48 : Int32) (x7_48 : Int32) (v56 : Int32) (rec120 : Int32 → SX → Option (Int32 × SX)) (x9_120 : Int32) (σ_120 : SX) : Option (Int32 × SX) :=
  if 6 ≤ x9_120 then
  (bind2 (fn_X3_isLeast σ_120 x7_48) fun (v68 : Int32) (σ67 : SX) =>
  letb (mrg σ_120 σ67) fun (σ69 : SX) =>
  letb (fun (z1_200 : Int32) => letb ((x6_48 + z1_200)) fun (v70 : Int32) =>
  letb (v56) fun (v71 : Int32) =>
  letb (0) fun (v72 : Int32) =>
  loopF FU (bd_L_law_210 v8 rec48 x7_48 v70) (fun _ _ _ => none) v71 v72 σ69) fun (K200 : Int32 → Option (Int32 × SX)) =>
  if v68 = 0 then
  (K200 0)
  else
  (K200 1))
  else
  (bind2 (fn_X3_crossing σ_120 v56 x9_120) fun (v86 : Int32) (σ85 : SX) =>
  letb (mrg σ_120 σ85) fun (σ87 : SX) =>
  letb (v86) fun (v88 : Int32) =>
  bind2 (fn_X3_crossing σ87 ((v4 &&& (v56 ^^^ (-1)))) x9_120) fun (v90 : Int32) (σ89 : SX) =>
  letb (mrg σ87 σ89) fun (σ91 : SX) =>
  letb (v90) fun (v92 : Int32) =>
  letb (fun (_u : Unit) => none) fun (K176 : Unit → Option (Int32 × SX)) =>
  if v88 = 3 then
  (K176 ())
  else
  (letb (fun (z1_173 : Int32) => if v92 = z1_173 then
  (letb (x9_120 + 1) fun (v93 : Int32) =>
  rec120 v93 σ91)
  else
  (K176 ())) fun (K173 : Int32 → Option (Int32 × SX)) =>
  if ¬ v88 = 0 then
  (K173 ((3 - v88)))
  else
  (K173 0)))

def bd_L_law_48 (L : Nat) (xs : Nat → Int32) (v4 : Int32) (v8 : Int32) (rec48 : Int32 → Int32 → SX → Option (Int32 × SX)) (x6_48 : Int32) (x7_48 : Int32) (σ_48 : SX) : Option (Int32 × SX) :=
  if v8 ≤ x7_48 then
  (bind2 (fn_X3_makeNet σ_48) fun (v12 : Int32) (σ11 : SX) =>
  letb (mrg σ_48 σ11) fun (σ13 : SX) =>
  if v12 = (if 30 < x6_48 then 30 else x6_48) then
  (bind2 (fn_X3_lumps σ13) fun (v15 : Int32) (σ14 : SX) =>
  letb (mrg σ13 σ14) fun (σ16 : SX) =>
  bind2 (fn_X3_leaks σ16) fun (v18 : Int32) (σ17 : SX) =>
  letb (mrg σ16 σ17) fun (σ19 : SX) =>
  letb (fun (z0_305 : Int32) => bind2 (fn_X3_fidelity σ19) fun (v21 : UInt64) (σ20 : SX) =>
  letb (mrg σ19 σ20) fun (σ22 : SX) =>
  letb (fun (z1_319 : Int32) => if z0_305 = z1_319 then
  (letb (fun (τ_363 : SX) => letb (0) fun (v23 : Int32) =>
  letb (0) fun (v24 : Int32) =>
  loopF FU (bd_L_law_369 L xs x6_48) (fun _ _ _ => none) v23 v24 τ_363) fun (K363 : SX → Option (Int32 × SX)) =>
  if 30 < x6_48 then
  (K363 σ22)
  else
  (bind2 (fn_X3_fidelity σ22) fun (v43 : UInt64) (σ42 : SX) =>
  letb (mrg σ22 σ42) fun (σ44 : SX) =>
  if ¬ (Op.cmpValue (FP.dcmp v43 d1) .l) = 0 then
  (K363 σ44)
  else
  (bind2 (fn_X3_isFaithful σ44) fun (v46 : Int32) (σ45 : SX) =>
  letb (mrg σ44 σ45) fun (σ47 : SX) =>
  letb (fun (τ_361 : SX) => none) fun (K361 : SX → Option (Int32 × SX)) =>
  if v46 = 0 then
  (K361 σ47)
  else
  (bind2 (fn_X3_markingCount σ47) fun (v49 : Int32) (σ48 : SX) =>
  letb (mrg σ47 σ48) fun (σ50 : SX) =>
  (fn_X3_reached σ50).bind fun (v51 : Int32) =>
  (fn_J6_bitCount v51).bind fun (v52 : Int32) =>
  if v49 = v52 then
  (K363 σ50)
  else
  (K361 σ50)))))
  else
  (none)) fun (K319 : Int32 → Option (Int32 × SX)) =>
  if ¬ (Op.cmpValue (FP.dcmp v21 d1) .l) = 0 then
  (K319 0)
  else
  (K319 1)) fun (K305 : Int32 → Option (Int32 × SX)) =>
  if ¬ (v15 + v18) = 0 then
  (K305 0)
  else
  (K305 1))
  else
  (none))
  else
  (bind2 (fn_X3_region σ_48 x7_48) fun (v54 : Int32) (σ53 : SX) =>
  letb (mrg σ_48 σ53) fun (σ55 : SX) =>
  letb (v54) fun (v56 : Int32) =>
  bind2 (fn_X3_isRegion σ55 v56) fun (v58 : Int32) (σ57 : SX) =>
  letb (mrg σ55 σ57) fun (σ59 : SX) =>
  letb (fun (τ_115 : SX) => none) fun (K115 : SX → Option (Int32 × SX)) =>
  if v58 = 0 then
  (K115 σ59)
  else
  (bind2 (fn_X3_isRegion σ59 ((v4 &&& (v56 ^^^ (-1))))) fun (v61 : Int32) (σ60 : SX) =>
  letb (mrg σ59 σ60) fun (σ62 : SX) =>
  if v61 = 0 then
  (K115 σ62)
  else
  (letb (fun (τ_104 : SX) => bind2 (fn_X3_grow τ_104 v56) fun (v64 : Int32) (σ63 : SX) =>
  letb (mrg τ_104 σ63) fun (σ65 : SX) =>
  if v64 = v56 then
  (letb (0) fun (v66 : Int32) =>
  loopF FU (bd_L_law_120 v4 v8 rec48 x6_48 x7_48 v56) (fun _ _ => none) v66 σ65)
  else
  (K115 σ65)) fun (K104 : SX → Option (Int32 × SX)) =>
  if x7_48 ≤ 0 then
  (K104 σ62)
  else
  (bind2 (fn_X3_region σ62 ((x7_48 - 1))) fun (v95 : Int32) (σ94 : SX) =>
  letb (mrg σ62 σ94) fun (σ96 : SX) =>
  if v56 ≤ v95 then
  (K115 σ96)
  else
  (K104 σ96)))))

def fw_L_law (σ : SX) (L : Nat) (xs : Nat → Int32) : Option (Int32 × SX) :=
  bind2 (fn_L_build σ L xs 0 6) fun (v2 : Int32) (σ1 : SX) =>
  letb (v2) fun (v3 : Int32) =>
  if 0 ≤ v3 then
  (letb (((1 <<< (v3 &&& 31)) - 1)) fun (v4 : Int32) =>
  bind2 (fn_X3_regionCount σ1) fun (v6 : Int32) (σ5 : SX) =>
  letb (mrg σ1 σ5) fun (σ7 : SX) =>
  letb (v6) fun (v8 : Int32) =>
  letb (0) fun (v9 : Int32) =>
  letb (0) fun (v10 : Int32) =>
  loopF FU (bd_L_law_48 L xs v4 v8) (fun _ _ _ => none) v9 v10 σ7)
  else
  (none)
