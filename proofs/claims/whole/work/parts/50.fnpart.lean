/-! by wip/whole/gen.py: pure functions of loops behind news -/
def bd_X2_init_63 (rec55 : Int32 → SX → Option (SX)) (x1_55 : Int32) (rec63 : Int32 → SX → Option (SX)) (x2_63 : Int32) (σ_63 : SX) : Option (SX) :=
  if 12 ≤ x2_63 then
  (letb (x1_55 + 1) fun (v3 : Int32) =>
  rec55 v3 σ_63)
  else
  ((arow x1_55).bind fun (r4 : Nat) =>
  (as_ σ_63 (2 + r4) 12 x2_63 ((-1))).bind fun (σ5 : SX) =>
  letb (x2_63 + 1) fun (v6 : Int32) =>
  rec63 v6 σ5)

def bd_X2_init_55 (rec55 : Int32 → SX → Option (SX)) (x1_55 : Int32) (σ_55 : SX) : Option (SX) :=
  if 6 ≤ x1_55 then
  (some σ_55)
  else
  (letb (0) fun (v2 : Int32) =>
  loopF FU (bd_X2_init_63 rec55 x1_55) (fun _ _ => none) v2 σ_55)

def fw_X2_init (σ : SX) : Option (SX) :=
  letb (0) fun (v1 : Int32) =>
  loopF FU (bd_X2_init_55) (fun _ _ => none) v1 σ

def bd_X4_init_45 (rec45 : Int32 → SX → Option (SX)) (x1_45 : Int32) (σ_45 : SX) : Option (SX) :=
  if 72 ≤ x1_45 then
  (some σ_45)
  else
  ((as_ σ_45 1 72 x1_45 ((-1))).bind fun (σ2 : SX) =>
  letb (x1_45 + 1) fun (v3 : Int32) =>
  rec45 v3 σ2)

def fw_X4_init (σ : SX) : Option (SX) :=
  letb (0) fun (v1 : Int32) =>
  loopF FU (bd_X4_init_45) (fun _ _ => none) v1 σ

def bd_X4_isFaithful_275 (x2_45 : Int32) (σ_45 : SX) (x6_243 : Int32) (K320 : Int32 → Int32 → Option (Int32 × SX)) (v10 : Int32) (rec275 : Int32 → Int32 → Option (Int32 × SX)) (x4_275 : Int32) (x7_275 : Int32) : Option (Int32 × SX) :=
  if x6_243 ≤ x7_275 then
  (K320 x4_275 v10)
  else
  (letb (fun (z0_312 : Int32) => letb (z0_312) fun (v12 : Int32) =>
  letb (x7_275 + 1) fun (v13 : Int32) =>
  rec275 v12 v13) fun (K312 : Int32 → Option (Int32 × SX)) =>
  letb (fun (_u : Unit) => K312 0) fun (K311 : Unit → Option (Int32 × SX)) =>
  if x4_275 = 0 then
  (K311 ())
  else
  ((fn_X4_has σ_45 x2_45 x7_275).bind fun (v14 : Int32) =>
  letb (fun (_u : Unit) => K312 1) fun (K307 : Unit → Option (Int32 × SX)) =>
  if v14 = 0 then
  (K307 ())
  else
  ((ag σ_45 5 12 x7_275).bind fun (v15 : Int32) =>
  (ag σ_45 5 12 x6_243).bind fun (v16 : Int32) =>
  if v15 = v16 then
  (K311 ())
  else
  (K307 ()))))

def bd_X4_isFaithful_243 (x2_45 : Int32) (σ_45 : SX) (rec243 : Int32 → Int32 → Int32 → Option (Int32 × SX)) (x4_243 : Int32) (x5_243 : Int32) (x6_243 : Int32) : Option (Int32 × SX) :=
  letb (fun (_u : Unit) => letb (fun (_u : Unit) => (zr 0).bind fun w9 => some (w9, σ_45)) fun (K344 : Unit → Option (Int32 × SX)) =>
  if x4_243 = 0 then
  (K344 ())
  else
  (if ¬ x5_243 = (σ_45.1 7) then
  (K344 ())
  else
  ((zr 1).bind fun w9 => some (w9, σ_45)))) fun (K326 : Unit → Option (Int32 × SX)) =>
  if (σ_45.1 1) ≤ x6_243 then
  (K326 ())
  else
  (if x4_243 = 0 then
  (K326 ())
  else
  ((fn_X4_has σ_45 x2_45 x6_243).bind fun (v8 : Int32) =>
  letb (fun (y4_320 : Int32) (y5_320 : Int32) => letb (x6_243 + 1) fun (v9 : Int32) =>
  rec243 y4_320 y5_320 v9) fun (K320 : Int32 → Int32 → Option (Int32 × SX)) =>
  if ¬ v8 = 0 then
  (letb (x5_243 + 1) fun (v10 : Int32) =>
  letb (0) fun (v11 : Int32) =>
  loopF FU (bd_X4_isFaithful_275 x2_45 σ_45 x6_243 K320 v10) (fun _ _ => none) x4_243 v11)
  else
  (K320 x4_243 x5_243)))

def bd_X4_isFaithful_77 (v17 : Int32) (rec60 : Int32 → Int32 → Int32 → SX → Option (Int32 × SX)) (x5_60 : Int32) (rec77 : Int32 → Int32 → Int32 → SX → Option (Int32 × SX)) (x2_77 : Int32) (x4_77 : Int32) (x6_77 : Int32) (σ_77 : SX) : Option (Int32 × SX) :=
  letb (fun (_u : Unit) => letb (x5_60 + 1) fun (v20 : Int32) =>
  rec60 x2_77 x4_77 v20 σ_77) fun (K228 : Unit → Option (Int32 × SX)) =>
  if 6 ≤ x6_77 then
  (K228 ())
  else
  ((fn_X4_has σ_77 v17 x5_60).bind fun (v21 : Int32) =>
  if v21 = 0 then
  (K228 ())
  else
  (if x4_77 = 0 then
  (K228 ())
  else
  ((fn_X4_to σ_77 x5_60 x6_77).bind fun (v22 : Int32) =>
  letb (v22) fun (v23 : Int32) =>
  (ag σ_77 5 12 x5_60).bind fun (v24 : Int32) =>
  (ag σ_77 4 200 v24).bind fun (v25 : Int32) =>
  (fn_X4_behind σ_77 v25 x6_77).bind fun (v26 : Int32) =>
  letb (v26) fun (v27 : Int32) =>
  letb (fun (z0_136 : Int32) => letb (fun (z1_147 : Int32) => letb (fun (z0_155 : Int32) => letb (z0_155) fun (v28 : Int32) =>
  letb (fun (y2_222 : Int32) (y4_222 : Int32) (τ_222 : SX) => letb (x6_77 + 1) fun (v29 : Int32) =>
  rec77 y2_222 y4_222 v29 τ_222) fun (K222 : Int32 → Int32 → SX → Option (Int32 × SX)) =>
  if v28 = 0 then
  (K222 x2_77 v28 σ_77)
  else
  (if ¬ v23 = (-1) then
  ((fn_X4_numberOf σ_77 v27).bind fun (v30 : Int32) =>
  letb (v30) fun (v31 : Int32) =>
  letb (fun (z0_207 : Int32) => letb (z0_207) fun (v32 : Int32) =>
  (as_ σ_77 5 12 v23 v31).bind fun (σ33 : SX) =>
  letb ((x2_77 ||| (1 <<< (v23 &&& 31)))) fun (v34 : Int32) =>
  K222 v34 v32 σ33) fun (K207 : Int32 → Option (Int32 × SX)) =>
  letb (fun (_u : Unit) => K207 0) fun (K206 : Unit → Option (Int32 × SX)) =>
  if v31 = (-1) then
  (K206 ())
  else
  ((ag σ_77 5 12 v23).bind fun (v35 : Int32) =>
  letb (fun (_u : Unit) => K207 1) fun (K202 : Unit → Option (Int32 × SX)) =>
  if v35 = (-1) then
  (K202 ())
  else
  ((ag σ_77 5 12 v23).bind fun (v36 : Int32) =>
  if ¬ v36 = v31 then
  (K206 ())
  else
  (K202 ()))))
  else
  (K222 x2_77 v28 σ_77))) fun (K155 : Int32 → Option (Int32 × SX)) =>
  if ¬ z0_136 = z1_147 then
  (K155 0)
  else
  (K155 1)) fun (K147 : Int32 → Option (Int32 × SX)) =>
  if ¬ v27 = (-1) then
  (K147 0)
  else
  (K147 1)) fun (K136 : Int32 → Option (Int32 × SX)) =>
  if ¬ v23 = (-1) then
  (K136 0)
  else
  (K136 1))))

def bd_X4_isFaithful_60 (rec45 : Int32 → Int32 → Int32 → SX → Option (Int32 × SX)) (v17 : Int32) (rec60 : Int32 → Int32 → Int32 → SX → Option (Int32 × SX)) (x2_60 : Int32) (x4_60 : Int32) (x5_60 : Int32) (σ_60 : SX) : Option (Int32 × SX) :=
  letb (fun (_u : Unit) => rec45 x2_60 v17 x4_60 σ_60) fun (K234 : Unit → Option (Int32 × SX)) =>
  if (σ_60.1 1) ≤ x5_60 then
  (K234 ())
  else
  (if x4_60 = 0 then
  (K234 ())
  else
  (letb (0) fun (v19 : Int32) =>
  loopF FU (bd_X4_isFaithful_77 v17 rec60 x5_60) (fun _ _ _ _ => none) x2_60 x4_60 v19 σ_60))

def bd_X4_isFaithful_45 (rec45 : Int32 → Int32 → Int32 → SX → Option (Int32 × SX)) (x2_45 : Int32) (x3_45 : Int32) (x4_45 : Int32) (σ_45 : SX) : Option (Int32 × SX) :=
  letb (fun (_u : Unit) => letb (0) fun (v6 : Int32) =>
  letb (0) fun (v7 : Int32) =>
  loopF FU (bd_X4_isFaithful_243 x2_45 σ_45) (fun _ _ _ => none) x4_45 v6 v7) fun (K237 : Unit → Option (Int32 × SX)) =>
  if x2_45 = x3_45 then
  (K237 ())
  else
  (if x4_45 = 0 then
  (K237 ())
  else
  (letb (x2_45) fun (v17 : Int32) =>
  letb (0) fun (v18 : Int32) =>
  loopF FU (bd_X4_isFaithful_60 rec45 v17) (fun _ _ _ _ => none) x2_45 x4_45 v18 σ_45))

def bd_X4_isFaithful_18 (rec18 : Int32 → SX → Option (Int32 × SX)) (x2_18 : Int32) (σ_18 : SX) : Option (Int32 × SX) :=
  if 12 ≤ x2_18 then
  ((as_ σ_18 5 12 0 0).bind fun (σ2 : SX) =>
  letb (1) fun (v3 : Int32) =>
  letb (0) fun (v4 : Int32) =>
  letb (1) fun (v5 : Int32) =>
  loopF FU (bd_X4_isFaithful_45) (fun _ _ _ _ => none) v3 v4 v5 σ2)
  else
  ((as_ σ_18 5 12 x2_18 ((-1))).bind fun (σ37 : SX) =>
  letb (x2_18 + 1) fun (v38 : Int32) =>
  rec18 v38 σ37)

def fw_X4_isFaithful (σ : SX) : Option (Int32 × SX) :=
  letb (0) fun (v1 : Int32) =>
  loopF FU (bd_X4_isFaithful_18) (fun _ _ => none) v1 σ
