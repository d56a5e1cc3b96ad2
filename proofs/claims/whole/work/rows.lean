section
theorem tst_1 : 1 + 1 = 2 := rfl
def tst_f : Nat → Nat
  | 0 => 0
  | n+1 => tst_f n + 2
theorem tst_2 (n : Nat) : tst_f n = 2 * n := by
  induction n with
  | zero => rfl
  | succ n ih => simp [tst_f, ih]; omega
end
