/-! by wip/p34/gen.py: pure functions of fidelity -/
def fn_X3_fidelity (σ : SX)  : Option (UInt64 × SX) :=
  (fn_X2_statePairs σ).bind fun (v1 : Int32) =>
  (fn_X2_stopPairs σ).bind fun (v2 : Int32) =>
  letb ((v1 + v2)) fun (v3 : Int32) =>
  if ¬ v3 = 0 then
  (bind2 (fn_X1_pairsNotApart σ) fun (v5 : Int32) (σ4 : SX) =>
  bind2 (fn_X1_pairsNotPrevented σ4) fun (v7 : Int32) (σ6 : SX) =>
  letb ((v5 + v7)) fun (v8 : Int32) =>
  (dz (FP.ddiv ((FP.i2d v8)) ((FP.i2d v3)))).bind fun (v9 : UInt64) =>
  (dz (FP.dsub d1 v9)).bind fun (v10 : UInt64) =>
  some (v10, σ6))
  else
  (some (d1, σ))
