variable {sN : Int} {sX : Int → Int}
/-! the cases append and clearText; texts as both read them -/
theorem t_67 {D : Nat} (hD : 1 ≤ D) {μ : MU} {Q : GQ} {a : Int} (ha : 0 ≤ a ∧ a < 65536) (hl : 0 ≤ (μ 36 1) ∧ (μ 36 1) < 100) (h : Q none g_SH (gW (gW μ 37 (μ 36 1) a) 36 1 ((μ 36 1) + 1))) : gCall g_T g_F sN sX D 67 [gR 36, gI a] g_SH μ Q := by
  obtain ⟨d, rfl⟩ := gD (show 1 ≤ D by omega)
  refine gC 300 [] rfl ?_
  (conv => whnf); try simp only [gO, gWe, ne_eq, Nat.reduceEqDiff, not_false_eq_true, true_or, or_true, true_and]
  repeat' (first | exact True.intro | (refine ⟨fun hb => ?_, fun hb => ?_⟩ <;> first | (exfalso; omega; done) | exact absurd True.intro hb | ((conv => whnf); try simp only [gO, gWe, ne_eq, Nat.reduceEqDiff, not_false_eq_true, true_or, or_true, true_and])) | (refine ⟨by omega, ?_⟩; (conv => whnf); try simp only [gO, gWe, ne_eq, Nat.reduceEqDiff, not_false_eq_true, true_or, or_true, true_and]) | (refine ⟨fun hb => ?_, ?_⟩ <;> first | (exfalso; omega; done) | exact absurd True.intro hb | ((conv => whnf); try simp only [gO, gWe, ne_eq, Nat.reduceEqDiff, not_false_eq_true, true_or, or_true, true_and])) | fail)
  exact h
/-- a text, sign by sign -/
def pHr (tx : Int → Int) (ln p : Int) : Int := if p < ln then tx p else 0
def pNum (hr : Int → Int) (n b p : Int) : Int × Int :=
  if 48 ≤ hr p ∧ hr p ≤ 57 then
    (if 48 < hr p ∧ 48 ≤ hr (p + 1) ∧ hr (p + 1) ≤ 57 then (if 10 * (hr p - 48) + (hr (p + 1) - 48) < n ∧ 10 * (hr p - 48) + (hr (p + 1) - 48) ≠ b then (10 * (hr p - 48) + (hr (p + 1) - 48), p + 2) else (-1, p))
      else (if hr p - 48 < n ∧ hr p - 48 ≠ b then (hr p - 48, p + 1) else (-1, p)))
  else (-1, p)
def pOpt (hr : Int → Int) (sg lo hi ot p : Int) : Int × Int :=
  if hr p = sg then (if lo ≤ hr (p + 1) - 48 ∧ hr (p + 1) - 48 ≤ hi then (hr (p + 1) - 48, p + 2) else (-1, p + 1)) else (ot, p)
