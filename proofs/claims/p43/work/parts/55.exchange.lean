variable {sN : Int} {sX : Int → Int}
/-! the case exchange -/
theorem iC_sw {μ : MU} {sq : Int → Int} (hG : iG μ) (hL : iL μ) (hN : iN μ) {y z p : Int} (y0 : 0 ≤ y) (y1 : y < (μ 9 1)) (z0 : 0 ≤ z) (z1 : z < (μ 9 1)) (hz : z ≠ y) (p0 : 0 ≤ p) (p1 : (μ 23) y + p + 1 < (μ 23) (y + 1)) (h : iC μ sq z) : iC μ (swS sq ((μ 23) y + p)) z := by
  have out : ∀ k : Int, (μ 23) z ≤ k → k < (μ 23) (z + 1) → swS sq ((μ 23) y + p) k = sq k := fun k k0 k1 => by
    have : k ≠ (μ 23) y + p ∧ k ≠ (μ 23) y + p + 1 := by
      by_cases c : z < y
      · have := iN_mon hG hL hN (y := z + 1) (z := y) (by omega) (by omega) (by omega); omega
      · have := iN_mon hG hL hN (y := y + 1) (z := z) (by omega) (by omega) (by omega); omega
    unfold swS
    rw [if_neg this.2, if_neg this.1]
  intro i j k i0 i1 i2 i3
  rw [out i i0 (by omega), out j (by omega) (by omega), out k (by omega) i3]
  exact h i j k i0 i1 i2 i3
