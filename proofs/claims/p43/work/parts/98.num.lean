variable {sN : Int} {sX : Int → Int}
/-! the cells' numbers -/
theorem g_and31 (x : Int) : 0 ≤ gAnd x 2147483647 ∧ gAnd x 2147483647 < 2147483648 := by
  show 0 ≤ (BitVec.ofInt 32 x &&& BitVec.ofInt 32 2147483647).toInt ∧ (BitVec.ofInt 32 x &&& BitVec.ofInt 32 2147483647).toInt < 2147483648
  have hl : (BitVec.ofInt 32 x &&& BitVec.ofInt 32 2147483647).toNat ≤ 2147483647 := by
    rw [BitVec.toNat_and]
    exact Nat.le_trans Nat.and_le_right (by decide)
  rw [BitVec.toInt_eq_toNat_of_lt (by omega)]
  omega
theorem g_and1 (x : Int) : gAnd x 1 = 0 ∨ gAnd x 1 = 1 := by
  show (BitVec.ofInt 32 x &&& BitVec.ofInt 32 1).toInt = 0 ∨ (BitVec.ofInt 32 x &&& BitVec.ofInt 32 1).toInt = 1
  have hl : (BitVec.ofInt 32 x &&& BitVec.ofInt 32 1).toNat ≤ 1 := by
    rw [BitVec.toNat_and]
    exact Nat.le_trans Nat.and_le_right (by decide)
  rw [BitVec.toInt_eq_toNat_of_lt (by omega)]
  omega
theorem g_shr {x : Int} (h : 0 ≤ x ∧ x < 2147483648) {k : Int} {n : Nat} (hk : (Int32.ofInt k &&& 31).toBitVec.smod 32 = BitVec.ofNat 32 n) (hn : n < 32) : 0 ≤ gShr x k ∧ gShr x k ≤ x := by
  have e : gShr x k = x / (2 ^ n : Nat) := by
    show ((BitVec.ofInt 32 x).sshiftRight ((Int32.ofInt k &&& 31).toBitVec.smod 32).toNat).toInt = _
    rw [hk, BitVec.toInt_sshiftRight, BitVec.toNat_ofNat, Nat.mod_eq_of_lt (by omega), Int.shiftRight_eq_div_pow]
    congr 1
    exact g_toInt ⟨by omega, h.2⟩
  rw [e]
  have p : 0 < 2 ^ n := Nat.two_pow_pos n
  exact ⟨Int.ediv_nonneg h.1 (by omega), Int.ediv_le_self _ h.1⟩
theorem g_s4 {x : Int} (h : 0 ≤ x ∧ x < 2147483648) : 0 ≤ gShr x 4 ∧ gShr x 4 ≤ x := g_shr (n := 4) h (by decide) (by decide)
theorem g_s8 {x : Int} (h : 0 ≤ x ∧ x < 2147483648) : 0 ≤ gShr x 8 ∧ gShr x 8 ≤ x := g_shr (n := 8) h (by decide) (by decide)
theorem g_s10 {x : Int} (h : 0 ≤ x ∧ x < 2147483648) : 0 ≤ gShr x 10 ∧ gShr x 10 ≤ x := g_shr (n := 10) h (by decide) (by decide)
theorem g_s11 {x : Int} (h : 0 ≤ x ∧ x < 2147483648) : 0 ≤ gShr x 11 ∧ gShr x 11 ≤ x := g_shr (n := 11) h (by decide) (by decide)
theorem g_s12 {x : Int} (h : 0 ≤ x ∧ x < 2147483648) : 0 ≤ gShr x 12 ∧ gShr x 12 ≤ x := g_shr (n := 12) h (by decide) (by decide)
theorem g_rm {a b : Int} (h0 : 0 ≤ a) (h1 : a < 2147483648) (h2 : 0 < b) (h3 : b < 2147483648) : 0 ≤ gRem a b ∧ gRem a b < b := by
  rw [g_rem h0 h1 h2 h3]
  have e : a - a / b * b = a % b := by
    have := Int.emod_def a b
    rw [Int.mul_comm] at this
    omega
  rw [e]
  exact ⟨Int.emod_nonneg _ (by omega), Int.emod_lt_of_pos _ h2⟩
