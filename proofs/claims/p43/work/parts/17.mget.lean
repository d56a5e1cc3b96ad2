variable {sN : Int} {sX : Int → Int}
/-! small methods of the model that read the graph and the layers -/
theorem g_rem {a b : Int} (h0 : 0 ≤ a) (h1 : a < 2147483648) (h2 : 0 < b) (h3 : b < 2147483648) : gRem a b = a - a / b * b := by
  have ha : (Int32.ofInt a).toInt = a := g_toInt ⟨by omega, h1⟩
  have hb : (Int32.ofInt b).toInt = b := g_toInt ⟨by omega, h3⟩
  have hd : (Int32.ofInt a / Int32.ofInt b).toInt = a / b := by
    rw [Int32.toInt_div, ha, hb, Int.tdiv_eq_ediv_of_nonneg h0]
    have := Int.ediv_le_self b h0
    have := Int.ediv_nonneg h0 (Int.le_of_lt h2)
    exact Int.bmod_eq_of_le (by omega) (by omega)
  have h4 := Int.ediv_mul_le a (show b ≠ 0 by omega)
  have h5 : 0 ≤ a / b * b := Int.mul_nonneg (Int.ediv_nonneg h0 (Int.le_of_lt h2)) (Int.le_of_lt h2)
  show (Int32.ofInt a - Int32.ofInt a / Int32.ofInt b * Int32.ofInt b).toInt = _
  rw [Int32.toInt_sub, Int32.toInt_mul, ha, hb, hd, Int.bmod_eq_of_le (n := a / b * b) (by omega) (by omega)]
  exact Int.bmod_eq_of_le (by omega) (by omega)
