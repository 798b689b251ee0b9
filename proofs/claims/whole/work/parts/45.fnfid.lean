/-! by wip/whole/gen.py: pure functions of fidelity -/
def fn_X3_fidelity (σ : SX)  : Option (UInt64 × SX) :=
  (fn_X2_statePairs σ).bind fun (v1 : Int32) =>
  (fn_X2_stopPairs σ).bind fun (v2 : Int32) =>
  letb ((v1 + v2)) fun (v3 : Int32) =>
  if ¬ v3 = 0 then
  (bind2 (fn_X1_pairsNotApart σ) fun (v5 : Int32) (σ4 : SX) =>
  bind2 (fn_X1_pairsNotPrevented σ4) fun (v7 : Int32) (σ6 : SX) =>
  letb ((v5 + v7)) fun (v8 : Int32) =>
  (dz (FP.ddiv ((FP.i2d v8)) ((FP.i2d v3)))).bind fun (v9 : UInt64) =>
  (dz (FP.dsub d1 v9)).bind fun (v10 : UInt64) =>
  some (v10, σ6))
  else
  (some (d1, σ))

def bd_X4_fidelity_31 (σ1 : SX) (rec21 : Int32 → Int32 → Option (UInt64 × SX)) (x2_21 : Int32) (rec31 : Int32 → Int32 → Option (UInt64 × SX)) (x1_31 : Int32) (x3_31 : Int32) : Option (UInt64 × SX) :=
  if 6 ≤ x3_31 then
  (letb (x2_21 + 1) fun (v11 : Int32) =>
  rec21 x1_31 v11)
  else
  ((fn_X4_isAsked σ1 x2_21 x3_31).bind fun (v12 : Int32) =>
  letb (fun (z1_52 : Int32) => letb ((x1_31 + z1_52)) fun (v13 : Int32) =>
  letb (x3_31 + 1) fun (v14 : Int32) =>
  rec31 v13 v14) fun (K52 : Int32 → Option (UInt64 × SX)) =>
  if v12 = 0 then
  (K52 0)
  else
  (K52 1))

def bd_X4_fidelity_21 (σ1 : SX) (rec21 : Int32 → Int32 → Option (UInt64 × SX)) (x1_21 : Int32) (x2_21 : Int32) : Option (UInt64 × SX) :=
  if (σ1.1 1) ≤ x2_21 then
  (letb (fun (z0_89 : UInt64) (τ_89 : SX) => some (z0_89, τ_89)) fun (K89 : UInt64 → SX → Option (UInt64 × SX)) =>
  if ¬ x1_21 = 0 then
  (bind2 (fn_X4_lumpCount σ1) fun (v5 : Int32) (σ4 : SX) =>
  bind2 (fn_X4_leakCount σ4) fun (v7 : Int32) (σ6 : SX) =>
  (dz (FP.ddiv ((FP.i2d ((v5 + v7)))) ((FP.i2d x1_21)))).bind fun (v8 : UInt64) =>
  (dz (FP.dsub d1 v8)).bind fun (v9 : UInt64) =>
  K89 v9 σ6)
  else
  (K89 d1 σ1))
  else
  (letb (0) fun (v10 : Int32) =>
  loopF FU (bd_X4_fidelity_31 σ1 rec21 x2_21) (fun _ _ => none) x1_21 v10)

def fn_X4_fidelity (σ : SX)  : Option (UInt64 × SX) :=
  letb (ss σ 0 0) fun (σ1 : SX) =>
  letb ((((σ1.1 1) * ((σ1.1 1) - 1)) / 2)) fun (v2 : Int32) =>
  letb (0) fun (v3 : Int32) =>
  loopF FU (bd_X4_fidelity_21 σ1) (fun _ _ => none) v2 v3
