variable {sN : Int} {sX : Int → Int}
/-! the cases that change the graph -/
theorem t_15 {D : Nat} (hD : 1 ≤ D) {μ : MU} {Q : GQ} {w g : Int} (hn : 0 ≤ (μ 1 0) ∧ (μ 1 0) < 12) (h : Q (some (gI ((μ 1 0)))) g_SH (gW (gW (gW μ 2 (μ 1 0) w) 3 (μ 1 0) g) 1 0 ((μ 1 0) + 1))) : gCall g_T g_F sN sX D 15 [gR 1, gI w, gI g] g_SH μ Q := by
  obtain ⟨d, rfl⟩ := gD (show 1 ≤ D by omega)
  refine gC 300 [] rfl ?_
  (conv => whnf); try simp only [gO, gWe, ne_eq, Nat.reduceEqDiff, not_false_eq_true, true_or, or_true, true_and]
  repeat' (first | exact True.intro | (refine ⟨fun hb => ?_, fun hb => ?_⟩ <;> first | (exfalso; omega; done) | exact absurd True.intro hb | ((conv => whnf); try simp only [gO, gWe, ne_eq, Nat.reduceEqDiff, not_false_eq_true, true_or, or_true, true_and])) | (refine ⟨by omega, ?_⟩; (conv => whnf); try simp only [gO, gWe, ne_eq, Nat.reduceEqDiff, not_false_eq_true, true_or, or_true, true_and]) | (refine ⟨fun hb => ?_, ?_⟩ <;> first | (exfalso; omega; done) | exact absurd True.intro hb | ((conv => whnf); try simp only [gO, gWe, ne_eq, Nat.reduceEqDiff, not_false_eq_true, true_or, or_true, true_and])) | fail)
  rw [show (μ 1 0) + 1 - 1 = (μ 1 0) by omega]
  exact h
theorem t_16 {D : Nat} (hD : 1 ≤ D) {μ : MU} {Q : GQ} {a b p q l : Int} (hn : 0 ≤ (μ 1 1) ∧ (μ 1 1) < 20) (h : Q (some (gI ((μ 1 1)))) g_SH (gW (gW (gW (gW (gW (gW μ 4 (μ 1 1) a) 5 (μ 1 1) b) 6 (μ 1 1) p) 7 (μ 1 1) q) 8 (μ 1 1) l) 1 1 ((μ 1 1) + 1))) : gCall g_T g_F sN sX D 16 [gR 1, gI a, gI b, gI p, gI q, gI l] g_SH μ Q := by
  obtain ⟨d, rfl⟩ := gD (show 1 ≤ D by omega)
  refine gC 300 [] rfl ?_
  (conv => whnf); try simp only [gO, gWe, ne_eq, Nat.reduceEqDiff, not_false_eq_true, true_or, or_true, true_and]
  repeat' (first | exact True.intro | (refine ⟨fun hb => ?_, fun hb => ?_⟩ <;> first | (exfalso; omega; done) | exact absurd True.intro hb | ((conv => whnf); try simp only [gO, gWe, ne_eq, Nat.reduceEqDiff, not_false_eq_true, true_or, or_true, true_and])) | (refine ⟨by omega, ?_⟩; (conv => whnf); try simp only [gO, gWe, ne_eq, Nat.reduceEqDiff, not_false_eq_true, true_or, or_true, true_and]) | (refine ⟨fun hb => ?_, ?_⟩ <;> first | (exfalso; omega; done) | exact absurd True.intro hb | ((conv => whnf); try simp only [gO, gWe, ne_eq, Nat.reduceEqDiff, not_false_eq_true, true_or, or_true, true_and])) | fail)
  rw [show (μ 1 1) + 1 - 1 = (μ 1 1) by omega]
  exact h
