variable {sN : Int} {sX : Int → Int}
/-! the case align -/
theorem alK_c {μ ν : MU} (h : hSt μ ν) : alK ν = alK μ := by
  funext sq l y n
  induction n with
  | zero => rfl
  | succ n ih => rw [alK_s, alK_s, ih, dsr_c h, xWd_c h, h 23 (by decide) (by decide)]
theorem alY_c {μ ν : MU} (h : hSt μ ν) : alY ν = alY μ := by
  funext sq l n
  induction n with
  | zero => rfl
  | succ n ih => unfold alY; rw [ih, alK_c h, h 23 (by decide) (by decide)]
