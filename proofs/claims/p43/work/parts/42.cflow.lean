variable {sN : Int} {sX : Int → Int}
/-! the class moves flow, and finds the lowest of the best layers -/
theorem t_33 {D : Nat} (hD : 2 ≤ D) {μ : MU} {Q : GQ} {a A : Int} {p : Nat} (hG : iG μ) (hU : iU μ) (hC : pCyc (μ 1 0) (μ 1 1) (μ 11) (μ 12) (μ 8) (μ 17) (μ 18) a p) (hF : ∀ e : Int, 0 ≤ e → e < (μ 1 1) → 0 ≤ (μ 17) e ∧ (μ 17) e ≤ 660) (hB : hBal (μ 1 1) (μ 11) (μ 12) (μ 17)) (A0 : 1 ≤ A) (A1 : A ≤ 660) (hA : ∀ r : Nat, r < p → (μ 11) ((μ 18) (gIt (pU (μ 11) (μ 12) (μ 18)) r a)) = gIt (pU (μ 11) (μ 12) (μ 18)) r a → A ≤ (μ 17) ((μ 18) (gIt (pU (μ 11) (μ 12) (μ 18)) r a)))
    (h : ∀ ν : MU, gFr [17] μ ν → hBal (μ 1 1) (μ 11) (μ 12) (ν 17) → hVal (μ 1 1) (μ 8) (μ 17) + 1 ≤ hVal (μ 1 1) (μ 8) (ν 17) → (∀ e : Int, 0 ≤ e → e < (μ 1 1) → 0 ≤ (ν 17) e) → Q none g_SH ν) : gCall g_T g_F sN sX D 33 [gR 9, gI a, gI A] g_SH μ Q := by
  obtain ⟨hE, q, -, q2⟩ := iU_E hG hU
  have G := hG.1
  have P := hC.1
  obtain ⟨d, rfl⟩ := gD (show 1 ≤ D by omega)
  refine gC 300 [5] rfl ?_
  (conv => whnf); try simp only [gO, gWe, ne_eq, Nat.reduceEqDiff, not_false_eq_true, true_or, or_true, true_and]
  have key : ∀ s : Int, 0 ≤ s → s ≤ p - 1 → ∀ (ν : MU) (x : GV), gFr [17] μ ν → mInv (μ 1 1) (μ 11) (μ 12) (μ 8) (μ 17) (μ 18) a A s.toNat (ν 17) → gG g_T g_F (gCall g_T g_F sN sX d) sN sX (g_T 33) Q 5 [gR 9, gI a, gI A, gI (gIt (pU (μ 11) (μ 12) (μ 18)) s.toNat a), gI s, x] [] g_SH ν 0 0 := by
    have go : ∀ s : Int, 0 ≤ s → s ≤ p - 1 → ∀ (ν : MU) (x : GV), gFr [17] μ ν → mInv (μ 1 1) (μ 11) (μ 12) (μ 8) (μ 17) (μ 18) a A s.toNat (ν 17) → (∀ (ρ : MU) (x : GV), gFr [17] μ ρ → mInv (μ 1 1) (μ 11) (μ 12) (μ 8) (μ 17) (μ 18) a A (s.toNat + 1) (ρ 17) → (gIt (pU (μ 11) (μ 12) (μ 18)) (s.toNat + 1) a = a → Q none g_SH ρ) ∧ (gIt (pU (μ 11) (μ 12) (μ 18)) (s.toNat + 1) a ≠ a → gG g_T g_F (gCall g_T g_F sN sX d) sN sX (g_T 33) Q 5 [gR 9, gI a, gI A, gI (gIt (pU (μ 11) (μ 12) (μ 18)) (s.toNat + 1) a), gI (s + 1), x] [] g_SH ρ 0 0)) → gG g_T g_F (gCall g_T g_F sN sX d) sN sX (g_T 33) Q 5 [gR 9, gI a, gI A, gI (gIt (pU (μ 11) (μ 12) (μ 18)) s.toNat a), gI s, x] [] g_SH ν 0 0 := by
      intro s s0 s1 ν x hν hI nx
      have c := hC.2.2.2.1 s.toNat
      have c2 := (c.2 (by omega)).1
      have st := mInv_s hE hC A0 A1 hA (show s.toNat < p by omega) hI
      have bd := (hI.2.2 _ c2.1 c2.2).1
      have e1 : gIt (pU (μ 11) (μ 12) (μ 18)) (s.toNat + 1) a = pU (μ 11) (μ 12) (μ 18) (gIt (pU (μ 11) (μ 12) (μ 18)) s.toNat a) := rfl
      rw [e1] at nx
      generalize gIt (pU (μ 11) (μ 12) (μ 18)) s.toNat a = v at *
      have f18 : (ν 18) v = (μ 18) v := by rw [hν 18 (by decide)]
      have g18 : (ν 18) = (μ 18) := hν 18 (by decide)
      have f1 : (ν 1 0) = (μ 1 0) := by rw [hν 1 (by decide)]
      have f2 : (ν 1 1) = (μ 1 1) := by rw [hν 1 (by decide)]
      have g11 : (ν 11) = (μ 11) := hν 11 (by decide)
      have g12 : (ν 12) = (μ 12) := hν 12 (by decide)
      have g8 : (ν 8) = (μ 8) := hν 8 (by decide)
      have f11 : (ν 11) ((ν 18) v) = (μ 11) ((μ 18) v) := by rw [f18, g11]
      have hGν : iG ν := iG_f (hν 1 (by decide)) (hν 2 (by decide)) (hν 3 (by decide)) (hν 4 (by decide)) (hν 5 (by decide)) (hν 6 (by decide)) (hν 7 (by decide)) (hν 8 (by decide)) hG
      have hEν : uE (ν 1 0) (ν 1 1) (ν 11) (ν 12) (ν 8) := by rw [f1, f2, g11, g12, g8]; exact hE
      have nx2 : ∀ z : Int, z = (if (μ 11) ((μ 18) v) = v then -A else A) → (pU (μ 11) (μ 12) (μ 18) v = a → Q none g_SH (gW ν 17 ((ν 18) v) ((ν 17) ((ν 18) v) + z))) ∧ (pU (μ 11) (μ 12) (μ 18) v ≠ a → gG g_T g_F (gCall g_T g_F sN sX d) sN sX (g_T 33) Q 5 [gR 9, gI a, gI A, gI (pU (μ 11) (μ 12) (μ 18) v), gI (s + 1), gI ((ν 18) v)] [] g_SH (gW ν 17 ((ν 18) v) ((ν 17) ((ν 18) v) + z)) 0 0) := by
        intro z hz
        refine nx _ _ (hν.W (by decide)) ?_
        show mInv _ _ _ _ _ _ _ _ _ (gW ν 17 ((ν 18) v) ((ν 17) ((ν 18) v) + z) 17)
        rw [gW_up, f18, hz]
        exact st
      rw [← f18] at bd c2
      clear nx st hI
      have pr : ∀ z : Int, pU (gW ν 17 ((ν 18) v) z 11) (gW ν 17 ((ν 18) v) z 12) (gW ν 17 ((ν 18) v) z 18) v = pU (μ 11) (μ 12) (μ 18) v := fun z => by
        show pU (ν 11) (ν 12) (ν 18) v = _
        rw [g11, g12, g18]
      by_cases hc : (μ 11) ((μ 18) v) = v
      · have n2 := nx2 (-A) (if_pos hc).symm
        rw [← f11] at hc
        clear nx2
        refine gB_gG [5] 300 ?_
        (conv => whnf); try simp only [gO, gWe, ne_eq, Nat.reduceEqDiff, not_false_eq_true, true_or, or_true, true_and]
        repeat' (first | exact True.intro | (refine ⟨fun hb => ?_, fun hb => ?_⟩ <;> first | (exfalso; omega; done) | exact absurd True.intro hb | ((conv => whnf); try simp only [gO, gWe, ne_eq, Nat.reduceEqDiff, not_false_eq_true, true_or, or_true, true_and])) | (refine ⟨by omega, ?_⟩; (conv => whnf); try simp only [gO, gWe, ne_eq, Nat.reduceEqDiff, not_false_eq_true, true_or, or_true, true_and]) | (refine ⟨fun hb => ?_, ?_⟩ <;> first | (exfalso; omega; done) | exact absurd True.intro hb | ((conv => whnf); try simp only [gO, gWe, ne_eq, Nat.reduceEqDiff, not_false_eq_true, true_or, or_true, true_and])) | fail)
        refine t_31 (by omega) hGν hEν (by omega) (by show v < (ν 1 0); omega) (by show 0 ≤ (ν 18) v; omega) (by show (ν 18) v < (ν 1 1); omega) ?_
        rw [pr]
        (conv => whnf); try simp only [gO, gWe, ne_eq, Nat.reduceEqDiff, not_false_eq_true, true_or, or_true, true_and]
        repeat' (first | exact True.intro | (refine ⟨fun hb => ?_, fun hb => ?_⟩ <;> first | (exfalso; omega; done) | exact absurd True.intro hb | ((conv => whnf); try simp only [gO, gWe, ne_eq, Nat.reduceEqDiff, not_false_eq_true, true_or, or_true, true_and])) | (refine ⟨by omega, ?_⟩; (conv => whnf); try simp only [gO, gWe, ne_eq, Nat.reduceEqDiff, not_false_eq_true, true_or, or_true, true_and]) | (refine ⟨fun hb => ?_, ?_⟩ <;> first | (exfalso; omega; done) | exact absurd True.intro hb | ((conv => whnf); try simp only [gO, gWe, ne_eq, Nat.reduceEqDiff, not_false_eq_true, true_or, or_true, true_and])) | fail)
        · exact n2.2 hb
        · exact n2.1 (by omega)
      · have n2 := nx2 A (if_neg hc).symm
        rw [← f11] at hc
        clear nx2
        refine gB_gG [5] 300 ?_
        (conv => whnf); try simp only [gO, gWe, ne_eq, Nat.reduceEqDiff, not_false_eq_true, true_or, or_true, true_and]
        repeat' (first | exact True.intro | (refine ⟨fun hb => ?_, fun hb => ?_⟩ <;> first | (exfalso; omega; done) | exact absurd True.intro hb | ((conv => whnf); try simp only [gO, gWe, ne_eq, Nat.reduceEqDiff, not_false_eq_true, true_or, or_true, true_and])) | (refine ⟨by omega, ?_⟩; (conv => whnf); try simp only [gO, gWe, ne_eq, Nat.reduceEqDiff, not_false_eq_true, true_or, or_true, true_and]) | (refine ⟨fun hb => ?_, ?_⟩ <;> first | (exfalso; omega; done) | exact absurd True.intro hb | ((conv => whnf); try simp only [gO, gWe, ne_eq, Nat.reduceEqDiff, not_false_eq_true, true_or, or_true, true_and])) | fail)
        refine t_31 (by omega) hGν hEν (by omega) (by show v < (ν 1 0); omega) (by show 0 ≤ (ν 18) v; omega) (by show (ν 18) v < (ν 1 1); omega) ?_
        rw [pr]
        (conv => whnf); try simp only [gO, gWe, ne_eq, Nat.reduceEqDiff, not_false_eq_true, true_or, or_true, true_and]
        repeat' (first | exact True.intro | (refine ⟨fun hb => ?_, fun hb => ?_⟩ <;> first | (exfalso; omega; done) | exact absurd True.intro hb | ((conv => whnf); try simp only [gO, gWe, ne_eq, Nat.reduceEqDiff, not_false_eq_true, true_or, or_true, true_and])) | (refine ⟨by omega, ?_⟩; (conv => whnf); try simp only [gO, gWe, ne_eq, Nat.reduceEqDiff, not_false_eq_true, true_or, or_true, true_and]) | (refine ⟨fun hb => ?_, ?_⟩ <;> first | (exfalso; omega; done) | exact absurd True.intro hb | ((conv => whnf); try simp only [gO, gWe, ne_eq, Nat.reduceEqDiff, not_false_eq_true, true_or, or_true, true_and])) | fail)
        · exact n2.2 hb
        · exact n2.1 (by omega)
    refine g_up (fun s s0 s1 ih ν x hν hI => ?_) (fun ν x hν hI => ?_)
    · refine go s s0 (by omega) ν x hν hI (fun ρ x hρ hI2 => ⟨fun he => absurd he (hC.2.2.1 _ (by omega) (by omega)), fun _ => ?_⟩)
      have i := ih ρ x hρ
      rw [show (s + 1).toNat = s.toNat + 1 by omega] at i
      exact i hI2
    · refine go (p - 1) (by omega) (by omega) ν x hν hI (fun ρ x hρ hI2 => ?_)
      have rt := hC.2.1
      rw [show ((p : Int) - 1).toNat + 1 = p by omega] at hI2 ⊢
      refine ⟨fun _ => ?_, fun he => absurd rt he⟩
      obtain ⟨b1, b2, b3⟩ := mInv_e hC A0 hI2
      exact h ρ hρ b1 b2 b3
  exact key 0 (by omega) (by omega) μ _ gFr.rf (mInv_0 hF hB)
theorem t_30 {D : Nat} (hD : 3 ≤ D) {μ : MU} {Q : GQ} {r T : Int} {t ps : Int → Int} (hG : iG μ) (hU : iU μ) (hI : pInv (μ 1 0) (μ 1 1) (μ 11) (μ 12) (μ 8) (μ 17) (μ 1 0) (μ 1 1) T (μ 13) (μ 18) t ps) (r0 : 0 ≤ r) (r1 : r < (μ 1 0)) (hr : ps r = (μ 1 0)) (hF : ∀ e : Int, 0 ≤ e → e < (μ 1 1) → 0 ≤ (μ 17) e ∧ (μ 17) e ≤ 660) (hB : hBal (μ 1 1) (μ 11) (μ 12) (μ 17))
    (h : ∀ ν : MU, gFr [17] μ ν → hBal (μ 1 1) (μ 11) (μ 12) (ν 17) → hVal (μ 1 1) (μ 8) (μ 17) + 1 ≤ hVal (μ 1 1) (μ 8) (ν 17) → (∀ e : Int, 0 ≤ e → e < (μ 1 1) → 0 ≤ (ν 17) e) → Q (some (gI (1))) g_SH ν) : gCall g_T g_F sN sX D 30 [gR 9, gI r] g_SH μ Q := by
  have hE := (iU_E hG hU).1
  have G := hG.1
  have ch := p_chain hE hI r0 r1 hr
  obtain ⟨p, hC⟩ := p_cyc hE hI r0 r1 hr
  obtain ⟨d, rfl⟩ := gD (show 1 ≤ D by omega)
  refine gC 300 [4] rfl ?_
  (conv => whnf); try simp only [gO, gWe, ne_eq, Nat.reduceEqDiff, not_false_eq_true, true_or, or_true, true_and]
  have key : ∀ j : Int, 0 ≤ j → j ≤ (μ 1 0) → gG g_T g_F (gCall g_T g_F sN sX d) sN sX (g_T 30) Q 4 [gR 9, gI r, gI (gIt (pU (μ 11) (μ 12) (μ 18)) j.toNat r), gI j] [] g_SH μ 0 0 := by
    refine g_up (fun j j0 j1 ih => ?_) ?_
    · have c := ch j.toNat (by omega)
      have c' := ch (j.toNat + 1) (by omega)
      have b := (hI.2.1 _ c.1.1 c.1.2 (c.2.2 (by omega))).1
      rw [show (j + 1).toNat = j.toNat + 1 by omega] at ih
      have e1 : gIt (pU (μ 11) (μ 12) (μ 18)) (j.toNat + 1) r = pU (μ 11) (μ 12) (μ 18) (gIt (pU (μ 11) (μ 12) (μ 18)) j.toNat r) := rfl
      have u1 := c'.1
      rw [e1] at ih u1
      have c1 := c.1
      clear c c'
      generalize gIt (pU (μ 11) (μ 12) (μ 18)) j.toNat r = v at *
      refine gB_gG [4] 300 ?_
      (conv => whnf); try simp only [gO, gWe, ne_eq, Nat.reduceEqDiff, not_false_eq_true, true_or, or_true, true_and]
      repeat' (first | exact True.intro | (refine ⟨fun hb => ?_, fun hb => ?_⟩ <;> first | (exfalso; omega; done) | exact absurd True.intro hb | ((conv => whnf); try simp only [gO, gWe, ne_eq, Nat.reduceEqDiff, not_false_eq_true, true_or, or_true, true_and])) | (refine ⟨by omega, ?_⟩; (conv => whnf); try simp only [gO, gWe, ne_eq, Nat.reduceEqDiff, not_false_eq_true, true_or, or_true, true_and]) | (refine ⟨fun hb => ?_, ?_⟩ <;> first | (exfalso; omega; done) | exact absurd True.intro hb | ((conv => whnf); try simp only [gO, gWe, ne_eq, Nat.reduceEqDiff, not_false_eq_true, true_or, or_true, true_and])) | fail)
      refine t_31 (by omega) hG hE (by omega) (by omega) (by omega) (by omega) ?_
      (conv => whnf); try simp only [gO, gWe, ne_eq, Nat.reduceEqDiff, not_false_eq_true, true_or, or_true, true_and]
      repeat' (first | exact True.intro | (refine ⟨fun hb => ?_, fun hb => ?_⟩ <;> first | (exfalso; omega; done) | exact absurd True.intro hb | ((conv => whnf); try simp only [gO, gWe, ne_eq, Nat.reduceEqDiff, not_false_eq_true, true_or, or_true, true_and])) | (refine ⟨by omega, ?_⟩; (conv => whnf); try simp only [gO, gWe, ne_eq, Nat.reduceEqDiff, not_false_eq_true, true_or, or_true, true_and]) | (refine ⟨fun hb => ?_, ?_⟩ <;> first | (exfalso; omega; done) | exact absurd True.intro hb | ((conv => whnf); try simp only [gO, gWe, ne_eq, Nat.reduceEqDiff, not_false_eq_true, true_or, or_true, true_and])) | fail)
      exact ih
    · refine gB_gG [4] 300 ?_
      (conv => whnf); try simp only [gO, gWe, ne_eq, Nat.reduceEqDiff, not_false_eq_true, true_or, or_true, true_and]
      repeat' (first | exact True.intro | (refine ⟨fun hb => ?_, fun hb => ?_⟩ <;> first | (exfalso; omega; done) | exact absurd True.intro hb | ((conv => whnf); try simp only [gO, gWe, ne_eq, Nat.reduceEqDiff, not_false_eq_true, true_or, or_true, true_and])) | (refine ⟨by omega, ?_⟩; (conv => whnf); try simp only [gO, gWe, ne_eq, Nat.reduceEqDiff, not_false_eq_true, true_or, or_true, true_and]) | (refine ⟨fun hb => ?_, ?_⟩ <;> first | (exfalso; omega; done) | exact absurd True.intro hb | ((conv => whnf); try simp only [gO, gWe, ne_eq, Nat.reduceEqDiff, not_false_eq_true, true_or, or_true, true_and])) | fail)
      refine t_32 (by omega) hG hU hC hF (fun A A0 A1 hA => ?_)
      (conv => whnf); try simp only [gO, gWe, ne_eq, Nat.reduceEqDiff, not_false_eq_true, true_or, or_true, true_and]
      repeat' (first | exact True.intro | (refine ⟨fun hb => ?_, fun hb => ?_⟩ <;> first | (exfalso; omega; done) | exact absurd True.intro hb | ((conv => whnf); try simp only [gO, gWe, ne_eq, Nat.reduceEqDiff, not_false_eq_true, true_or, or_true, true_and])) | (refine ⟨by omega, ?_⟩; (conv => whnf); try simp only [gO, gWe, ne_eq, Nat.reduceEqDiff, not_false_eq_true, true_or, or_true, true_and]) | (refine ⟨fun hb => ?_, ?_⟩ <;> first | (exfalso; omega; done) | exact absurd True.intro hb | ((conv => whnf); try simp only [gO, gWe, ne_eq, Nat.reduceEqDiff, not_false_eq_true, true_or, or_true, true_and])) | fail)
      refine t_33 (by omega) hG hU hC hF hB A0 A1 hA (fun ν hν b1 b2 b3 => ?_)
      (conv => whnf); try simp only [gO, gWe, ne_eq, Nat.reduceEqDiff, not_false_eq_true, true_or, or_true, true_and]
      exact h ν hν b1 b2 b3
  exact key 0 (by omega) (by omega)
theorem t_27 {D : Nat} (hD : 4 ≤ D) {μ : MU} {Q : GQ} (hG : iG μ) (hU : iU μ) (h : ∀ ν : MU, gFr [13, 17, 18] μ ν → gLow (μ 1 0) (μ 1 1) (μ 11) (μ 12) (μ 8) (ν 13) → Q none g_SH ν) : gCall g_T g_F sN sX D 27 [gR 9] g_SH μ Q := by
  obtain ⟨hE, q, q1, q2⟩ := iU_E hG hU
  have G := hG.1
  obtain ⟨d, rfl⟩ := gD (show 1 ≤ D by omega)
  refine gC 300 [10] rfl ?_
  (conv => whnf); try simp only [gO, gWe, ne_eq, Nat.reduceEqDiff, not_false_eq_true, true_or, or_true, true_and]
  refine t_226_17 (by omega) (fun ν₁ hν₁ o1 => ?_)
  (conv => whnf); try simp only [gO, gWe, ne_eq, Nat.reduceEqDiff, not_false_eq_true, true_or, or_true, true_and]
  have key : ∀ u : Int, 0 ≤ u → u ≤ 661 → ∀ (ν : MU) (x : GV), gFr [13, 17, 18] μ ν → hBal (μ 1 1) (μ 11) (μ 12) (ν 17) → (∀ e : Int, 0 ≤ e → e < (μ 1 1) → 0 ≤ (ν 17) e) → u ≤ hVal (μ 1 1) (μ 8) (ν 17) → gG g_T g_F (gCall g_T g_F sN sX d) sN sX (g_T 27) Q 10 [gR 9, gI u, x] [] g_SH ν 0 0 := by
    refine g_up (fun u u0 u1 ih ν x hν hB h0 hV => ?_) (fun ν x hν hB h0 hV => ?_)
    · have bd := hVal_660 (by omega) hE h0 hB q1 q2 (by omega)
      have f1 : (ν 1 0) = (μ 1 0) := by rw [hν 1 (by decide)]
      have f2 : (ν 1 1) = (μ 1 1) := by rw [hν 1 (by decide)]
      have g11 : (ν 11) = (μ 11) := hν 11 (by decide)
      have g12 : (ν 12) = (μ 12) := hν 12 (by decide)
      have g8 : (ν 8) = (μ 8) := hν 8 (by decide)
      have cG : ∀ ρ : MU, gFr [13, 17, 18] μ ρ → iG ρ := fun ρ hρ => iG_f (hρ 1 (by decide)) (hρ 2 (by decide)) (hρ 3 (by decide)) (hρ 4 (by decide)) (hρ 5 (by decide)) (hρ 6 (by decide)) (hρ 7 (by decide)) (hρ 8 (by decide)) hG
      have cU : ∀ ρ : MU, gFr [13, 17, 18] μ ρ → iU ρ := fun ρ hρ => by
        unfold iU at *
        rw [hρ 1 (by decide), hρ 4 (by decide), hρ 5 (by decide), hρ 10 (by decide), hρ 11 (by decide), hρ 12 (by decide)]
        exact hU
      refine gB_gG [10] 300 ?_
      (conv => whnf); try simp only [gO, gWe, ne_eq, Nat.reduceEqDiff, not_false_eq_true, true_or, or_true, true_and]
      repeat' (first | exact True.intro | (refine ⟨fun hb => ?_, fun hb => ?_⟩ <;> first | (exfalso; omega; done) | exact absurd True.intro hb | ((conv => whnf); try simp only [gO, gWe, ne_eq, Nat.reduceEqDiff, not_false_eq_true, true_or, or_true, true_and])) | (refine ⟨by omega, ?_⟩; (conv => whnf); try simp only [gO, gWe, ne_eq, Nat.reduceEqDiff, not_false_eq_true, true_or, or_true, true_and]) | (refine ⟨fun hb => ?_, ?_⟩ <;> first | (exfalso; omega; done) | exact absurd True.intro hb | ((conv => whnf); try simp only [gO, gWe, ne_eq, Nat.reduceEqDiff, not_false_eq_true, true_or, or_true, true_and])) | fail)
      refine t_28 (by omega) (cG ν hν) (by rw [f1, f2, g11, g12, g8]; exact hE) (fun τ hτ hA hl hF => ?_) (fun τ r T t ps hτ hI r0 r1 hr => ?_)
      · rw [f1] at hl
        rw [f2, g11, g12, g8] at hA
        rw [f1, f2, g11, g12, g8] at hF
        (conv => whnf); try simp only [gO, gWe, ne_eq, Nat.reduceEqDiff, not_false_eq_true, true_or, or_true, true_and]
        repeat' (first | exact True.intro | (refine ⟨fun hb => ?_, fun hb => ?_⟩ <;> first | (exfalso; omega; done) | exact absurd True.intro hb | ((conv => whnf); try simp only [gO, gWe, ne_eq, Nat.reduceEqDiff, not_false_eq_true, true_or, or_true, true_and])) | (refine ⟨by omega, ?_⟩; (conv => whnf); try simp only [gO, gWe, ne_eq, Nat.reduceEqDiff, not_false_eq_true, true_or, or_true, true_and]) | (refine ⟨fun hb => ?_, ?_⟩ <;> first | (exfalso; omega; done) | exact absurd True.intro hb | ((conv => whnf); try simp only [gO, gWe, ne_eq, Nat.reduceEqDiff, not_false_eq_true, true_or, or_true, true_and])) | fail)
        exact h τ (hν.tr (hτ.mo (by decide))) (hOpt h0 hB hA hl hF)
      · rw [f1, f2, g11, g12, g8] at hI
        rw [f1] at r1 hr
        have hμτ : gFr [13, 17, 18] μ τ := hν.tr (hτ.mo (by decide))
        have k1 : (τ 1 0) = (μ 1 0) := by rw [hμτ 1 (by decide)]
        have k2 : (τ 1 1) = (μ 1 1) := by rw [hμτ 1 (by decide)]
        have k11 : (τ 11) = (μ 11) := hμτ 11 (by decide)
        have k12 : (τ 12) = (μ 12) := hμτ 12 (by decide)
        have k8 : (τ 8) = (μ 8) := hμτ 8 (by decide)
        have k17 : (τ 17) = (ν 17) := hτ 17 (by decide)
        (conv => whnf); try simp only [gO, gWe, ne_eq, Nat.reduceEqDiff, not_false_eq_true, true_or, or_true, true_and]
        repeat' (first | exact True.intro | (refine ⟨fun hb => ?_, fun hb => ?_⟩ <;> first | (exfalso; omega; done) | exact absurd True.intro hb | ((conv => whnf); try simp only [gO, gWe, ne_eq, Nat.reduceEqDiff, not_false_eq_true, true_or, or_true, true_and])) | (refine ⟨by omega, ?_⟩; (conv => whnf); try simp only [gO, gWe, ne_eq, Nat.reduceEqDiff, not_false_eq_true, true_or, or_true, true_and]) | (refine ⟨fun hb => ?_, ?_⟩ <;> first | (exfalso; omega; done) | exact absurd True.intro hb | ((conv => whnf); try simp only [gO, gWe, ne_eq, Nat.reduceEqDiff, not_false_eq_true, true_or, or_true, true_and])) | fail)
        refine t_30 (by omega) (T := T) (t := t) (ps := ps) (cG τ hμτ) (cU τ hμτ) (by rw [k1, k2, k11, k12, k8, k17]; exact hI) r0 (by omega) (by omega) (by rw [k2, k17]; exact fun e e0 e1 => ⟨h0 e e0 e1, bd.2 e e0 e1⟩) (by rw [k2, k11, k12, k17]; exact hB) (fun ω hω b1 b2 b3 => ?_)
        rw [k2, k11, k12] at b1
        rw [k2, k8, k17] at b2
        rw [k2] at b3
        (conv => whnf); try simp only [gO, gWe, ne_eq, Nat.reduceEqDiff, not_false_eq_true, true_or, or_true, true_and]
        repeat' (first | exact True.intro | (refine ⟨fun hb => ?_, fun hb => ?_⟩ <;> first | (exfalso; omega; done) | exact absurd True.intro hb | ((conv => whnf); try simp only [gO, gWe, ne_eq, Nat.reduceEqDiff, not_false_eq_true, true_or, or_true, true_and])) | (refine ⟨by omega, ?_⟩; (conv => whnf); try simp only [gO, gWe, ne_eq, Nat.reduceEqDiff, not_false_eq_true, true_or, or_true, true_and]) | (refine ⟨fun hb => ?_, ?_⟩ <;> first | (exfalso; omega; done) | exact absurd True.intro hb | ((conv => whnf); try simp only [gO, gWe, ne_eq, Nat.reduceEqDiff, not_false_eq_true, true_or, or_true, true_and])) | fail)
        exact ih ω _ (hμτ.tr (hω.mo (by decide))) b1 b3 (by omega)
    · have bd := hVal_660 (by omega) hE h0 hB q1 q2 (by omega)
      omega
  refine key 0 (by omega) (by omega) ν₁ _ (hν₁.mo (by decide)) (fun p => gSum_c _ (fun e e0 e1 => ?_)) (fun e e0 e1 => by rw [o1 e e0 (by omega)]; omega) ?_
  · show (ν₁ 17) e * _ = _
    rw [o1 e e0 (by omega), Int.one_mul]
  · have := gSum_l (f := fun _ => 0) (g := fun e => (ν₁ 17) e * (μ 8) e) (μ 1 1).toNat (fun e e0 e1 => by
      have := hE e e0 (by omega)
      show 0 ≤ (ν₁ 17) e * (μ 8) e
      rw [o1 e e0 (by omega)]; omega)
    have z : gSum (fun _ => 0) (μ 1 1).toNat = 0 := by
      have := gSum_b (f := fun _ => 0) (a := 0) (b := 0) (μ 1 1).toNat (fun _ _ _ => ⟨Int.le_refl _, Int.le_refl _⟩)
      omega
    unfold hVal
    omega
theorem t_20 {D : Nat} (hD : 21 ≤ D) {μ : MU} {Q : GQ} (hG : iG μ) (h : ∀ ν : MU, gFr [9, 10, 11, 12, 13, 14, 15, 16, 17, 18] μ ν → iL ν → Q none g_SH ν) : gCall g_T g_F sN sX D 20 [gR 9] g_SH μ Q := by
  have G := hG.1
  obtain ⟨d, rfl⟩ := gD (show 1 ≤ D by omega)
  refine gC 300 [15] rfl ?_
  (conv => whnf); try simp only [gO, gWe, ne_eq, Nat.reduceEqDiff, not_false_eq_true, true_or, or_true, true_and]
  refine t_25 (by omega) hG (fun ν₁ hν₁ hU => ?_)
  have hG₁ : iG ν₁ := iG_f (hν₁ 1 (by decide)) (hν₁ 2 (by decide)) (hν₁ 3 (by decide)) (hν₁ 4 (by decide)) (hν₁ 5 (by decide)) (hν₁ 6 (by decide)) (hν₁ 7 (by decide)) (hν₁ 8 (by decide)) hG
  have hE := (iU_E hG₁ hU).1
  have e1 : (ν₁ 1 0) = (μ 1 0) := by rw [hν₁ 1 (by decide)]
  have e2 : (ν₁ 1 1) = (μ 1 1) := by rw [hν₁ 1 (by decide)]
  (conv => whnf); try simp only [gO, gWe, ne_eq, Nat.reduceEqDiff, not_false_eq_true, true_or, or_true, true_and]
  refine t_27 (by omega) hG₁ hU (fun ν₂ hν₂ hL => ?_)
  (conv => whnf); try simp only [gO, gWe, ne_eq, Nat.reduceEqDiff, not_false_eq_true, true_or, or_true, true_and]
  have l33 : ∀ i : Int, 0 ≤ i → i < (ν₁ 1 0) → 0 ≤ (ν₂ 13) i ∧ (ν₂ 13) i ≤ 33 := fun i i0 i1 => gLow_33 (by omega) hE hL i0 i1
  have two : ∀ e : Int, 0 ≤ e → e ≤ (ν₁ 1 1) → ∀ ν : MU, gFr [9, 14, 15] ν₂ ν → (∀ j : Int, 0 ≤ j → j < (ν₁ 1 0) → (ν₂ 13) j < (ν 9 1)) → (0 ≤ (ν 9 1) ∧ (ν 9 1) ≤ 34) → ((ν 9 1) = 0 ∨ ∃ j : Int, 0 ≤ j ∧ j < (ν₁ 1 0) ∧ (ν₂ 13) j + 1 = (ν 9 1)) → (∀ j : Int, 0 ≤ j → j < e → (ν 14) j = (ν₂ 13) ((ν₁ 11) j) ∧ (ν 15) j = (ν₂ 13) ((ν₁ 12) j)) → gG g_T g_F (gCall g_T g_F sN sX d) sN sX (g_T 20) Q 53 [gR 9, gI e] [] g_SH ν 0 0 := by
    refine g_up (fun e e0 e1' ih ν hν c1 c2 c3 hk => ?_) (fun ν hν c1 c2 c3 hk => ?_)
    · have f2 : (ν 1 1) = (ν₁ 1 1) := by rw [hν 1 (by decide), hν₂ 1 (by decide)]
      have f11 : (ν 11) e = (ν₁ 11) e := by rw [hν 11 (by decide), hν₂ 11 (by decide)]
      have f12 : (ν 12) e = (ν₁ 12) e := by rw [hν 12 (by decide), hν₂ 12 (by decide)]
      have f13 : (ν 13) = (ν₂ 13) := hν 13 (by decide)
      have ee := hE e e0 e1'
      have nx : gG g_T g_F (gCall g_T g_F sN sX d) sN sX (g_T 20) Q 53 [gR 9, gI (e + 1)] [] g_SH (gW (gW ν 14 e ((ν 13) ((ν 11) e))) 15 e ((ν 13) ((ν 12) e))) 0 0 := by
        refine ih _ ((hν.W (by decide)).W (by decide)) c1 c2 c3 (fun j j0 j1 => ?_)
        show gW ν 14 e _ 14 j = _ ∧ gW (gW ν 14 e _) 15 e _ 15 j = _
        by_cases hc : j = e
        · rw [hc, gWe, gWe, f13, f11, f12]; exact ⟨rfl, rfl⟩
        · rw [gWn _ _ _ hc, gWn _ _ _ hc]; exact hk j j0 (by omega)
      clear ih c3
      refine gB_gG [53] 300 ?_
      (conv => whnf); try simp only [gO, gWe, ne_eq, Nat.reduceEqDiff, not_false_eq_true, true_or, or_true, true_and]
      repeat' (first | exact True.intro | (refine ⟨fun hb => ?_, fun hb => ?_⟩ <;> first | (exfalso; omega; done) | exact absurd True.intro hb | ((conv => whnf); try simp only [gO, gWe, ne_eq, Nat.reduceEqDiff, not_false_eq_true, true_or, or_true, true_and])) | (refine ⟨by omega, ?_⟩; (conv => whnf); try simp only [gO, gWe, ne_eq, Nat.reduceEqDiff, not_false_eq_true, true_or, or_true, true_and]) | (refine ⟨fun hb => ?_, ?_⟩ <;> first | (exfalso; omega; done) | exact absurd True.intro hb | ((conv => whnf); try simp only [gO, gWe, ne_eq, Nat.reduceEqDiff, not_false_eq_true, true_or, or_true, true_and])) | fail)
      exact nx
    · have f1 : (ν 1 0) = (ν₁ 1 0) := by rw [hν 1 (by decide), hν₂ 1 (by decide)]
      have f2 : (ν 1 1) = (ν₁ 1 1) := by rw [hν 1 (by decide), hν₂ 1 (by decide)]
      have f11 : (ν 11) = (ν₁ 11) := by rw [hν 11 (by decide), hν₂ 11 (by decide)]
      have f12 : (ν 12) = (ν₁ 12) := by rw [hν 12 (by decide), hν₂ 12 (by decide)]
      have f13 : (ν 13) = (ν₂ 13) := hν 13 (by decide)
      have f8 : (ν 8) = (ν₁ 8) := by rw [hν 8 (by decide), hν₂ 8 (by decide)]
      have nx : Q none g_SH ν := by
        refine h ν ((hν₁.mo (by decide)).tr ((hν₂.mo (by decide)).tr (hν.mo (by decide)))) ⟨?_, ?_, ?_, c2, ?_, ?_⟩
        · unfold iU at *
          rw [f1, f2, f11, f12, hν 4 (by decide), hν 5 (by decide), hν 10 (by decide), hν₂ 4 (by decide), hν₂ 5 (by decide), hν₂ 10 (by decide)]
          exact hU
        · intro e e0 e1'
          rw [f2] at e1'
          have a := hk e e0 e1'
          have b := hL.1.2 e e0 e1'
          rw [f11, f12, f13, f8]
          exact ⟨a.1, a.2, by omega⟩
        · intro i i0 i1
          rw [f1] at i1
          rw [f13]
          exact ⟨(l33 i i0 i1).1, c1 i i0 i1⟩
        · rw [f13, f1]; exact c3
        · rw [f1, f2, f11, f12, f8, f13]; exact hL
      clear c3 hk
      refine gB_gG [53] 300 ?_
      (conv => whnf); try simp only [gO, gWe, ne_eq, Nat.reduceEqDiff, not_false_eq_true, true_or, or_true, true_and]
      repeat' (first | exact True.intro | (refine ⟨fun hb => ?_, fun hb => ?_⟩ <;> first | (exfalso; omega; done) | exact absurd True.intro hb | ((conv => whnf); try simp only [gO, gWe, ne_eq, Nat.reduceEqDiff, not_false_eq_true, true_or, or_true, true_and])) | (refine ⟨by omega, ?_⟩; (conv => whnf); try simp only [gO, gWe, ne_eq, Nat.reduceEqDiff, not_false_eq_true, true_or, or_true, true_and]) | (refine ⟨fun hb => ?_, ?_⟩ <;> first | (exfalso; omega; done) | exact absurd True.intro hb | ((conv => whnf); try simp only [gO, gWe, ne_eq, Nat.reduceEqDiff, not_false_eq_true, true_or, or_true, true_and])) | fail)
      exact nx
  have one : ∀ i : Int, 0 ≤ i → i ≤ (ν₁ 1 0) → ∀ ν : MU, gFr [9, 14, 15] ν₂ ν → (∀ j : Int, 0 ≤ j → j < i → (ν₂ 13) j < (ν 9 1)) → (0 ≤ (ν 9 1) ∧ (ν 9 1) ≤ 34) → ((ν 9 1) = 0 ∨ ∃ j : Int, 0 ≤ j ∧ j < i ∧ (ν₂ 13) j + 1 = (ν 9 1)) → gG g_T g_F (gCall g_T g_F sN sX d) sN sX (g_T 20) Q 15 [gR 9, gI i] [] g_SH ν 0 0 := by
    refine g_up (fun i i0 i1 ih ν hν c1 c2 c3 => ?_) (fun ν hν c1 c2 c3 => ?_)
    · have f1 : (ν 1 0) = (ν₁ 1 0) := by rw [hν 1 (by decide), hν₂ 1 (by decide)]
      have f13 : (ν 13) i = (ν₂ 13) i := by rw [hν 13 (by decide)]
      have li := l33 i i0 i1
      have nx : gG g_T g_F (gCall g_T g_F sN sX d) sN sX (g_T 20) Q 15 [gR 9, gI (i + 1)] [] g_SH (gW ν 9 1 (max (ν 9 1) ((ν 13) i + 1))) 0 0 := by
        refine ih _ (hν.W (by decide)) (fun j j0 j1 => ?_) ?_ ?_
        · show (ν₂ 13) j < gW ν 9 1 _ 9 1
          rw [gWe]
          by_cases hc : j = i
          · rw [hc, f13]; omega
          · have := c1 j j0 (by omega)
            omega
        · show 0 ≤ gW ν 9 1 _ 9 1 ∧ gW ν 9 1 _ 9 1 ≤ 34
          rw [gWe]
          omega
        · show gW ν 9 1 _ 9 1 = 0 ∨ ∃ j : Int, 0 ≤ j ∧ j < i + 1 ∧ _ = gW ν 9 1 _ 9 1
          rw [gWe]
          by_cases hc : (ν 9 1) < (ν 13) i + 1
          · exact Or.inr ⟨i, i0, by omega, by omega⟩
          · rcases c3 with z | ⟨j, j0, j1, j2⟩
            · exact Or.inr ⟨i, i0, by omega, by omega⟩
            · exact Or.inr ⟨j, j0, by omega, by omega⟩
      clear ih c3
      refine gB_gG [15] 300 ?_
      (conv => whnf); try simp only [gO, gWe, ne_eq, Nat.reduceEqDiff, not_false_eq_true, true_or, or_true, true_and]
      repeat' (first | exact True.intro | (refine ⟨fun hb => ?_, fun hb => ?_⟩ <;> first | (exfalso; omega; done) | exact absurd True.intro hb | ((conv => whnf); try simp only [gO, gWe, ne_eq, Nat.reduceEqDiff, not_false_eq_true, true_or, or_true, true_and])) | (refine ⟨by omega, ?_⟩; (conv => whnf); try simp only [gO, gWe, ne_eq, Nat.reduceEqDiff, not_false_eq_true, true_or, or_true, true_and]) | (refine ⟨fun hb => ?_, ?_⟩ <;> first | (exfalso; omega; done) | exact absurd True.intro hb | ((conv => whnf); try simp only [gO, gWe, ne_eq, Nat.reduceEqDiff, not_false_eq_true, true_or, or_true, true_and])) | fail)
      exact nx
    · have f1 : (ν 1 0) = (ν₁ 1 0) := by rw [hν 1 (by decide), hν₂ 1 (by decide)]
      have nx : gG g_T g_F (gCall g_T g_F sN sX d) sN sX (g_T 20) Q 53 [gR 9, gI 0] [] g_SH ν 0 0 := two 0 (by omega) (by omega) ν hν c1 c2 c3 (fun j _ _ => by omega)
      clear c3
      refine gB_gG [15,53] 300 ?_
      (conv => whnf); try simp only [gO, gWe, ne_eq, Nat.reduceEqDiff, not_false_eq_true, true_or, or_true, true_and]
      repeat' (first | exact True.intro | (refine ⟨fun hb => ?_, fun hb => ?_⟩ <;> first | (exfalso; omega; done) | exact absurd True.intro hb | ((conv => whnf); try simp only [gO, gWe, ne_eq, Nat.reduceEqDiff, not_false_eq_true, true_or, or_true, true_and])) | (refine ⟨by omega, ?_⟩; (conv => whnf); try simp only [gO, gWe, ne_eq, Nat.reduceEqDiff, not_false_eq_true, true_or, or_true, true_and]) | (refine ⟨fun hb => ?_, ?_⟩ <;> first | (exfalso; omega; done) | exact absurd True.intro hb | ((conv => whnf); try simp only [gO, gWe, ne_eq, Nat.reduceEqDiff, not_false_eq_true, true_or, or_true, true_and])) | fail)
      exact nx
  refine one 0 (by omega) (by omega) _ (gFr.rf.W (by decide)) (fun j _ _ => by omega) ?_ (Or.inl ?_)
  · show 0 ≤ gW ν₂ 9 1 0 9 1 ∧ gW ν₂ 9 1 0 9 1 ≤ 34
    rw [gWe]; omega
  · show gW ν₂ 9 1 0 9 1 = 0
    exact gWe _ _ _ _
theorem t_116 {D : Nat} (hD : 22 ≤ D) {μ : MU} {Q : GQ} (hG : iG μ) (h : ∀ ν : MU, gFr [0, 9, 10, 11, 12, 13, 14, 15, 16, 17, 18] μ ν → iL ν → (ν 0 6) = 0 → Q none g_SH ν) : gCall g_T g_F sN sX D 116 [gR 0] g_SH μ Q := by
  obtain ⟨d, rfl⟩ := gD (show 1 ≤ D by omega)
  refine gC 300 [] rfl ?_
  (conv => whnf); try simp only [gO, gWe, ne_eq, Nat.reduceEqDiff, not_false_eq_true, true_or, or_true, true_and]
  repeat' (first | exact True.intro | (refine ⟨fun hb => ?_, fun hb => ?_⟩ <;> first | (exfalso; omega; done) | exact absurd True.intro hb | ((conv => whnf); try simp only [gO, gWe, ne_eq, Nat.reduceEqDiff, not_false_eq_true, true_or, or_true, true_and])) | (refine ⟨by omega, ?_⟩; (conv => whnf); try simp only [gO, gWe, ne_eq, Nat.reduceEqDiff, not_false_eq_true, true_or, or_true, true_and]) | (refine ⟨fun hb => ?_, ?_⟩ <;> first | (exfalso; omega; done) | exact absurd True.intro hb | ((conv => whnf); try simp only [gO, gWe, ne_eq, Nat.reduceEqDiff, not_false_eq_true, true_or, or_true, true_and])) | fail)
  refine t_20 (by omega) (iG_f rfl rfl rfl rfl rfl rfl rfl rfl hG) (fun ν hν hL => ?_)
  (conv => whnf); try simp only [gO, gWe, ne_eq, Nat.reduceEqDiff, not_false_eq_true, true_or, or_true, true_and]
  refine h ν ((gFr.rf.W (by decide)).tr (hν.mo (by decide))) hL ?_
  rw [hν 0 (by decide)]
  exact gWe _ _ _ _
