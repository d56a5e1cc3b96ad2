variable {sN : Int} {sX : Int → Int}
/-! the model's checksum -/
theorem hE1_c {μ ν : MU} (h : hSt μ ν) : hE1 ν = hE1 μ := by
  funext x n
  induction n with
  | zero => rfl
  | succ n ih => unfold hE1; rw [ih, h 10 (by decide) (by decide), h 14 (by decide) (by decide), h 15 (by decide) (by decide)]
theorem hN1_c {μ ν : MU} (h : hSt μ ν) : hN1 ν = hN1 μ := by
  funext x n
  induction n with
  | zero => rfl
  | succ n ih => unfold hN1; rw [ih, h 13 (by decide) (by decide)]
theorem hS1_c {μ ν : MU} (h : hSt μ ν) : hS1 ν = hS1 μ := by
  unfold hS1
  rw [hE1_c h, hN1_c h, xTot_c h, h 1 (by decide) (by decide), h 9 (by decide) (by decide)]
theorem hV1_c {μ ν : MU} (h : hSt μ ν) (h1 : ν 24 = μ 24) (h2 : ν 34 = μ 34) : hV1 ν = hV1 μ := by
  funext x n
  induction n with
  | zero => rfl
  | succ n ih => unfold hV1; rw [ih, h 20 (by decide) (by decide), h1, h2]
theorem xRt_c {μ ν : MU} (h : hSt μ ν) (h2 : ν 34 = μ 34) : xRt ν = xRt μ := by
  funext v
  unfold xRt
  rw [xWd_c h, h2]
theorem hS2_c {μ ν : MU} (h : hSt μ ν) (h1 : ν 24 = μ 24) (h3 : ν 25 = μ 25) (h2 : ν 34 = μ 34) : hS2 ν = hS2 μ := by
  unfold hS2
  rw [hV1_c h h1 h2, hS1_c h, xCa_c h, h3, xRt_c h h2, xSpr_c h h2, h 19 (by decide) (by decide)]
