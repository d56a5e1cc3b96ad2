variable {sN : Int} {sX : Int → Int}
/-! the cases that change the order -/
def hLC (μ ν : MU) (sq : Int → Int) : Prop := (hSame μ sq ∧ (ν 34) = (μ 34)) ∨ (¬ hSame μ sq ∧ hPk μ sq (fun k => (ν 34) (sq k)))
