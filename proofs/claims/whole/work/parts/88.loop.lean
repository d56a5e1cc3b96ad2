/-! the law's loop -/
set_option maxRecDepth 100000
set_option maxHeartbeats 4000000
theorem law_b {D : Nat} (hD : 35 ≤ D) {L : Int} {X : Int → Int} (hL : 0 ≤ L ∧ L ≤ 3072) (hX : ∀ i : Int, 0 ≤ i → i < L → gOk (X i)) : ∀ (n : Nat) (i : Int) (μ : MU), 0 ≤ i → i ≤ 4000 → L - i < n → iAll μ → gG g_T g_F (gCall g_T g_F D) L X (g_T 227) (fun v _ _ => v = some (gI 1)) 18 [gN 1, gR 0, gR 61, gI i] [] g_SH μ 0 0 := by
  intro n
  induction n with
  | zero =>
    intro i μ i0 i4 hn hA
    refine gB_gG [18] 300 ?_
    (conv => whnf); try simp only [gO, gWe, ne_eq, Nat.reduceEqDiff, not_false_eq_true, true_or, or_true, true_and]
    repeat' (first | exact True.intro | (refine ⟨fun hb => ?_, fun hb => ?_⟩ <;> first | (exfalso; omega; done) | exact absurd True.intro hb | ((conv => whnf); try simp only [gO, gWe, ne_eq, Nat.reduceEqDiff, not_false_eq_true, true_or, or_true, true_and])) | (refine ⟨by omega, ?_⟩; (conv => whnf); try simp only [gO, gWe, ne_eq, Nat.reduceEqDiff, not_false_eq_true, true_or, or_true, true_and]) | (refine ⟨fun hb => ?_, ?_⟩ <;> first | (exfalso; omega; done) | exact absurd True.intro hb | ((conv => whnf); try simp only [gO, gWe, ne_eq, Nat.reduceEqDiff, not_false_eq_true, true_or, or_true, true_and])) | fail)
  | succ n ihn =>
    intro i μ i0 i4 hn hA
    by_cases c : i ≤ L - 6
    · have ih : ∀ ρ : MU, iAll ρ → gG g_T g_F (gCall g_T g_F D) L X (g_T 227) (fun v _ _ => v = some (gI 1)) 18 [gN 1, gR 0, gR 61, gI (i + 6)] [] g_SH ρ 0 0 := fun ρ hρ => ihn (i + 6) ρ (by omega) (by omega) (by omega) hρ
      clear ihn
      refine gB_gG [18] 300 ?_
      (conv => whnf); try simp only [gO, gWe, ne_eq, Nat.reduceEqDiff, not_false_eq_true, true_or, or_true, true_and]
      repeat' (first | exact True.intro | (refine ⟨fun hb => ?_, fun hb => ?_⟩ <;> first | (exfalso; omega; done) | exact absurd True.intro hb | ((conv => whnf); try simp only [gO, gWe, ne_eq, Nat.reduceEqDiff, not_false_eq_true, true_or, or_true, true_and])) | (refine ⟨by omega, ?_⟩; (conv => whnf); try simp only [gO, gWe, ne_eq, Nat.reduceEqDiff, not_false_eq_true, true_or, or_true, true_and]) | (refine ⟨fun hb => ?_, ?_⟩ <;> first | (exfalso; omega; done) | exact absurd True.intro hb | ((conv => whnf); try simp only [gO, gWe, ne_eq, Nat.reduceEqDiff, not_false_eq_true, true_or, or_true, true_and])) | fail)
      · exact ih μ hA
      · refine c_75 (by omega) hA _ ?q (fun v ν hm => ?a) (fun v w ρ hw hA2 => ?b)
        case a =>
          (conv => whnf); try simp only [gO, gWe, ne_eq, Nat.reduceEqDiff, not_false_eq_true, true_or, or_true, true_and]
          repeat' (first | exact True.intro | (refine ⟨fun hb => ?_, fun hb => ?_⟩ <;> first | (exfalso; omega; done) | exact absurd True.intro hb | ((conv => whnf); try simp only [gO, gWe, ne_eq, Nat.reduceEqDiff, not_false_eq_true, true_or, or_true, true_and])) | (refine ⟨by omega, ?_⟩; (conv => whnf); try simp only [gO, gWe, ne_eq, Nat.reduceEqDiff, not_false_eq_true, true_or, or_true, true_and]) | (refine ⟨fun hb => ?_, ?_⟩ <;> first | (exfalso; omega; done) | exact absurd True.intro hb | ((conv => whnf); try simp only [gO, gWe, ne_eq, Nat.reduceEqDiff, not_false_eq_true, true_or, or_true, true_and])) | fail)
          exact hm
        case b =>
          subst hw
          (conv => whnf); try simp only [gO, gWe, ne_eq, Nat.reduceEqDiff, not_false_eq_true, true_or, or_true, true_and]
          repeat' (first | exact True.intro | (refine ⟨fun hb => ?_, fun hb => ?_⟩ <;> first | (exfalso; omega; done) | exact absurd True.intro hb | ((conv => whnf); try simp only [gO, gWe, ne_eq, Nat.reduceEqDiff, not_false_eq_true, true_or, or_true, true_and])) | (refine ⟨by omega, ?_⟩; (conv => whnf); try simp only [gO, gWe, ne_eq, Nat.reduceEqDiff, not_false_eq_true, true_or, or_true, true_and]) | (refine ⟨fun hb => ?_, ?_⟩ <;> first | (exfalso; omega; done) | exact absurd True.intro hb | ((conv => whnf); try simp only [gO, gWe, ne_eq, Nat.reduceEqDiff, not_false_eq_true, true_or, or_true, true_and])) | fail)
          exact ih ρ hA2
      all_goals sorry
    · clear ihn
      refine gB_gG [18] 300 ?_
      (conv => whnf); try simp only [gO, gWe, ne_eq, Nat.reduceEqDiff, not_false_eq_true, true_or, or_true, true_and]
      repeat' (first | exact True.intro | (refine ⟨fun hb => ?_, fun hb => ?_⟩ <;> first | (exfalso; omega; done) | exact absurd True.intro hb | ((conv => whnf); try simp only [gO, gWe, ne_eq, Nat.reduceEqDiff, not_false_eq_true, true_or, or_true, true_and])) | (refine ⟨by omega, ?_⟩; (conv => whnf); try simp only [gO, gWe, ne_eq, Nat.reduceEqDiff, not_false_eq_true, true_or, or_true, true_and]) | (refine ⟨fun hb => ?_, ?_⟩ <;> first | (exfalso; omega; done) | exact absurd True.intro hb | ((conv => whnf); try simp only [gO, gWe, ne_eq, Nat.reduceEqDiff, not_false_eq_true, true_or, or_true, true_and])) | fail)
