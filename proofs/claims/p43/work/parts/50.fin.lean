variable {sN : Int} {sX : Int → Int}
/-! the order has changed: what the class and the model do then -/
theorem t_117 {D : Nat} (hD : 3 ≤ D) {μ : MU} {Q : GQ} (hH0 : iH μ) (k0 : (∀ k : Int, 0 ≤ k → k < (μ 19 2) → (μ 24) k = (μ 26) k) → Q none g_SH μ) (k1 : (¬ ∀ k : Int, 0 ≤ k → k < (μ 19 2) → (μ 24) k = (μ 26) k) → ∀ ν : MU, gFr [34] μ ν → (∀ y k : Int, 0 ≤ y → y < (μ 9 1) → (μ 23) y ≤ k → k < (μ 23) (y + 1) → (ν 34) ((μ 24) k) = pkX μ (μ 24) y k) → Q none g_SH ν) : gCall g_T g_F sN sX D 117 [gR 0] g_SH μ Q := by
  have V := hH0.2.2.1.1
  have G := hH0.1.1
  obtain ⟨d, rfl⟩ := gD (show 1 ≤ D by omega)
  refine gC 300 [] rfl ?_
  (conv => whnf); try simp only [gO, gWe, ne_eq, Nat.reduceEqDiff, not_false_eq_true, true_or, or_true, true_and]
  refine t_46 (by omega) (by omega) (fun c => ?_) (fun c => ?_)
  · have f := k1 c
    clear k0 k1 c
    (conv => whnf); try simp only [gO, gWe, ne_eq, Nat.reduceEqDiff, not_false_eq_true, true_or, or_true, true_and]
    repeat' (first | exact True.intro | (refine ⟨fun hb => ?_, fun hb => ?_⟩ <;> first | (exfalso; omega; done) | exact absurd True.intro hb | ((conv => whnf); try simp only [gO, gWe, ne_eq, Nat.reduceEqDiff, not_false_eq_true, true_or, or_true, true_and])) | (refine ⟨by omega, ?_⟩; (conv => whnf); try simp only [gO, gWe, ne_eq, Nat.reduceEqDiff, not_false_eq_true, true_or, or_true, true_and]) | (refine ⟨fun hb => ?_, ?_⟩ <;> first | (exfalso; omega; done) | exact absurd True.intro hb | ((conv => whnf); try simp only [gO, gWe, ne_eq, Nat.reduceEqDiff, not_false_eq_true, true_or, or_true, true_and])) | fail)
    refine t_1 (by omega) hH0.1 hH0.2.1 hH0.2.2.1 hH0.2.2.2 (fun ν hν hl => ?_)
    (conv => whnf); try simp only [gO, gWe, ne_eq, Nat.reduceEqDiff, not_false_eq_true, true_or, or_true, true_and]
    repeat' (first | exact True.intro | (refine ⟨fun hb => ?_, fun hb => ?_⟩ <;> first | (exfalso; omega; done) | exact absurd True.intro hb | ((conv => whnf); try simp only [gO, gWe, ne_eq, Nat.reduceEqDiff, not_false_eq_true, true_or, or_true, true_and])) | (refine ⟨by omega, ?_⟩; (conv => whnf); try simp only [gO, gWe, ne_eq, Nat.reduceEqDiff, not_false_eq_true, true_or, or_true, true_and]) | (refine ⟨fun hb => ?_, ?_⟩ <;> first | (exfalso; omega; done) | exact absurd True.intro hb | ((conv => whnf); try simp only [gO, gWe, ne_eq, Nat.reduceEqDiff, not_false_eq_true, true_or, or_true, true_and])) | fail)
    exact f ν hν hl
  · have f := k0 c
    clear k0 k1 c
    (conv => whnf); try simp only [gO, gWe, ne_eq, Nat.reduceEqDiff, not_false_eq_true, true_or, or_true, true_and]
    repeat' (first | exact True.intro | (refine ⟨fun hb => ?_, fun hb => ?_⟩ <;> first | (exfalso; omega; done) | exact absurd True.intro hb | ((conv => whnf); try simp only [gO, gWe, ne_eq, Nat.reduceEqDiff, not_false_eq_true, true_or, or_true, true_and])) | (refine ⟨by omega, ?_⟩; (conv => whnf); try simp only [gO, gWe, ne_eq, Nat.reduceEqDiff, not_false_eq_true, true_or, or_true, true_and]) | (refine ⟨fun hb => ?_, ?_⟩ <;> first | (exfalso; omega; done) | exact absurd True.intro hb | ((conv => whnf); try simp only [gO, gWe, ne_eq, Nat.reduceEqDiff, not_false_eq_true, true_or, or_true, true_and])) | fail)
    exact f
def hSame (μ : MU) (sq : Int → Int) : Prop := ∀ k : Int, 0 ≤ k → k < (μ 19 2) → sq k = (μ 24) k
def hPk (μ : MU) (sq f : Int → Int) : Prop := ∀ y k : Int, 0 ≤ y → y < (μ 9 1) → (μ 23) y ≤ k → k < (μ 23) (y + 1) → f k = pkX μ sq y k
