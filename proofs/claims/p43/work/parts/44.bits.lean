variable {sN : Int} {sX : Int → Int}
/-! sets of nodes, as bits -/
def hX (S i : Int) : Int := if S.toNat.testBit i.toNat then 1 else 0
theorem hX_01 (S i : Int) : hX S i = 0 ∨ hX S i = 1 := by
  unfold hX
  split <;> omega
theorem b_bits : ∀ S T : Fin 64, ∀ i : Fin 12, gAnd (gShr ((64 * S.val + T.val : Nat) : Int) (i.val : Int)) 1 = if (64 * S.val + T.val).testBit i.val then 1 else 0 := by decide +kernel
theorem b_shl : ∀ i : Fin 13, gShl 1 (i.val : Int) = ((2 ^ i.val : Nat) : Int) := by decide +kernel
theorem b_bit {S i : Int} (h0 : 0 ≤ S) (h1 : S < 4096) (i0 : 0 ≤ i) (i1 : i < 12) : gAnd (gShr S i) 1 = hX S i := by
  have h := b_bits ⟨(S / 64).toNat, by omega⟩ ⟨(S % 64).toNat, by omega⟩ ⟨i.toNat, by omega⟩
  have e : 64 * (S / 64).toNat + (S % 64).toNat = S.toNat := by omega
  simp only [e] at h
  rw [show ((S.toNat : Nat) : Int) = S by omega, show ((i.toNat : Nat) : Int) = i by omega] at h
  exact h
theorem b_and {A B : Int} (a0 : 0 ≤ A) (a1 : A < 4096) (b0 : 0 ≤ B) (b1 : B < 4096) : gAnd A B = ((A.toNat &&& B.toNat : Nat) : Int) := by
  have hl : A.toNat &&& B.toNat ≤ A.toNat := Nat.and_le_left
  show (BitVec.ofInt 32 A &&& BitVec.ofInt 32 B).toInt = _
  have e1 : (BitVec.ofInt 32 A).toNat = A.toNat := by rw [BitVec.toNat_ofInt]; omega
  have e2 : (BitVec.ofInt 32 B).toNat = B.toNat := by rw [BitVec.toNat_ofInt]; omega
  rw [BitVec.toInt_eq_toNat_of_lt (by rw [BitVec.toNat_and, e1, e2]; omega), BitVec.toNat_and, e1, e2]
theorem b_andX {A B i : Int} (a0 : 0 ≤ A) (a1 : A < 4096) (b0 : 0 ≤ B) (b1 : B < 4096) : (0 ≤ gAnd A B ∧ gAnd A B ≤ A) ∧ (hX (gAnd A B) i = 1 ↔ hX A i = 1 ∧ hX B i = 1) := by
  have hl : A.toNat &&& B.toNat ≤ A.toNat := Nat.and_le_left
  rw [b_and a0 a1 b0 b1]
  refine ⟨by omega, ?_⟩
  unfold hX
  rw [Int.toNat_natCast, Nat.testBit_and]
  cases A.toNat.testBit i.toNat <;> cases B.toNat.testBit i.toNat <;> decide
/-- each set has a number -/
theorem b_mk (X : Nat → Bool) : ∀ n : Nat, ∃ S : Nat, S < 2 ^ n ∧ ∀ i : Nat, i < n → S.testBit i = X i := by
  intro n
  induction n with
  | zero => exact ⟨0, by decide, fun i hi => by omega⟩
  | succ n ih =>
    obtain ⟨S, s1, s2⟩ := ih
    have hp : 2 ^ (n + 1) = 2 ^ n + 2 ^ n := by rw [Nat.pow_succ]; omega
    by_cases hc : X n = true
    · refine ⟨2 ^ n + S, by omega, fun i hi => ?_⟩
      by_cases hd : i = n
      · rw [hd, Nat.testBit_two_pow_add_eq, Nat.testBit_lt_two_pow s1, hc]; rfl
      · rw [Nat.testBit_two_pow_add_gt (by omega)]; exact s2 i (by omega)
    · refine ⟨S, by omega, fun i hi => ?_⟩
      by_cases hd : i = n
      · rw [hd, Nat.testBit_lt_two_pow s1]
        cases h : X n
        · rfl
        · exact absurd h hc
      · exact s2 i (by omega)
theorem b_num {n : Int} (n0 : 0 ≤ n) (n1 : n ≤ 12) (X : Int → Int) (hX' : ∀ i : Int, X i = 0 ∨ X i = 1) (hne : ∃ i : Int, 0 ≤ i ∧ i < n ∧ X i = 1) : ∃ S : Int, 1 ≤ S ∧ S < ((2 ^ n.toNat : Nat) : Int) ∧ S < 4096 ∧ ∀ i : Int, 0 ≤ i → i < n → hX S i = X i := by
  obtain ⟨S, s1, s2⟩ := b_mk (fun i => decide (X (i : Int) = 1)) n.toNat
  have hp : 2 ^ n.toNat ≤ 2 ^ 12 := Nat.pow_le_pow_right (by omega) (by omega)
  have hv : ∀ i : Int, 0 ≤ i → i < n → hX (S : Int) i = X i := fun i i0 i1 => by
    unfold hX
    rw [Int.toNat_natCast, s2 i.toNat (by omega), show ((i.toNat : Nat) : Int) = i by omega]
    rcases hX' i with h | h <;> rw [h] <;> rfl
  refine ⟨S, ?_, by omega, by omega, hv⟩
  obtain ⟨i, i0, i1, i2⟩ := hne
  have h := hv i i0 i1
  rw [i2] at h
  have hS : S ≠ 0 := fun c => by
    rw [c] at h
    unfold hX at h
    rw [show ((0 : Nat) : Int).toNat = 0 from rfl, Nat.zero_testBit] at h
    exact absurd h (by decide)
  omega
