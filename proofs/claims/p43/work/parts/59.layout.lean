variable {sN : Int} {sX : Int → Int}
/-! the case layOut -/
theorem hTot_b {μ : MU} (hG : iG μ) (hL : iL μ) : 0 ≤ xTot μ ∧ xTot μ ≤ 660 := by
  have G := hG.1
  have := gSum_b (f := fun j => (μ 15) j - (μ 14) j) (a := 0) (b := 33) (μ 1 1).toNat (fun i i0 i1 => by
    have E := iE hG hL i0 (show i < (μ 1 1) by omega)
    show 0 ≤ (μ 15) i - (μ 14) i ∧ (μ 15) i - (μ 14) i ≤ 33
    omega)
  unfold xTot
  omega
