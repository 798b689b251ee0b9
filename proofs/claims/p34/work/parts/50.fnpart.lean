/-! by wip/p34/gen.py: pure functions of loops behind news -/
def bd_X2_init_63 (rec55 : Int32 → SX → Option (SX)) (x1_55 : Int32) (rec63 : Int32 → SX → Option (SX)) (x2_63 : Int32) (σ_63 : SX) : Option (SX) :=
  if 12 ≤ x2_63 then
  (letb (x1_55 + 1) fun (v3 : Int32) =>
  rec55 v3 σ_63)
  else
  ((arow x1_55).bind fun (r4 : Nat) =>
  (as_ σ_63 (2 + r4) 12 x2_63 ((-1))).bind fun (σ5 : SX) =>
  letb (x2_63 + 1) fun (v6 : Int32) =>
  rec63 v6 σ5)

def bd_X2_init_55 (rec55 : Int32 → SX → Option (SX)) (x1_55 : Int32) (σ_55 : SX) : Option (SX) :=
  if 6 ≤ x1_55 then
  (some σ_55)
  else
  (letb (0) fun (v2 : Int32) =>
  loopF FU (bd_X2_init_63 rec55 x1_55) (fun _ _ => none) v2 σ_55)

def fw_X2_init (σ : SX) : Option (SX) :=
  letb (0) fun (v1 : Int32) =>
  loopF FU (bd_X2_init_55) (fun _ _ => none) v1 σ
