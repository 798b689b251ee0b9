/-! 11: one more step of the walks -/
theorem iteN {α : Type} {c : Prop} [Decidable c] {a b r : α} (h : c) (hf : (if ¬ c then a else b) = r) : b = r := (if_neg (fun q => q h)).symm.trans hf
