/-! the model reads an edge of a text -/
def hEm (μ ν : MU) : Prop := gFr [61, 80] μ ν ∧ (∀ j : Int, j ≠ 20 → j ≠ 22 → ν 61 j = μ 61 j) ∧ ∀ k : Int, k < 5 * μ 61 22 → ν 80 k = μ 80 k
theorem hEm.rf {μ : MU} : hEm μ μ := ⟨gFr.rf, fun _ _ _ => rfl, fun _ _ => rfl⟩
theorem hEm.P {μ ν ρ : MU} {q : Int} (h : hEm μ ν) (h' : hPm ν ρ q) : hEm μ ρ := ⟨h.1.tr (h'.1.mo (by decide)), fun j h1 h2 => (h'.2.2 j h1).trans (h.2.1 j h1 h2), fun k hk => by rw [h'.1 80 (by decide)]; exact h.2.2 k hk⟩
theorem hEm.T {μ ν : MU} {k v : Int} (h : hEm μ ν) (hk : 5 * μ 61 22 ≤ k) : hEm μ (gW ν 80 k v) := ⟨h.1.W (by decide), fun j h1 h2 => h.2.1 j h1 h2, fun i hi => by rw [gWn _ _ _ (by omega)]; exact h.2.2 i hi⟩
theorem hEm.mt {μ ν : MU} {hr : Int → Int} (h : hEm μ ν) (hT : hMt μ hr) : hMt ν hr := hMt_c (h.2.1 4 (by decide) (by decide)) (h.1 65 (by decide)) hT
theorem t_218 {D : Nat} (hD : 6 ≤ D) {μ : MU} {Q : GQ} {n p t : Int} {hr : Int → Int} (hT : hMt μ hr) (hp : μ 61 20 = p) (p0 : 0 ≤ p ∧ p ≤ 100) (z0 : μ 62 0 = n) (hn : 0 ≤ n ∧ n ≤ 12) (ht : μ 61 22 = t) (t0 : 0 ≤ t ∧ t ≤ 25)
    (k1 : pOk hr n p → ∀ ν : MU, hEm μ ν → ν 61 20 = pPs hr n p → ν 61 22 = t + 1 → (ν 80 (5 * t) = (pE1 hr n p).1 ∧ ν 80 (5 * t + 1) = (pE3 hr n p).1 ∧ ν 80 (5 * t + 2) = (pE2 hr n p).1 ∧ ν 80 (5 * t + 3) = (pE4 hr n p).1 ∧ ν 80 (5 * t + 4) = (pE5 hr n p).1) → Q (some (gI (1))) g_SH ν)
    (k0 : ¬ pOk hr n p → ∀ ν : MU, hEm μ ν → ν 61 20 = pPs hr n p → ν 61 22 = t → Q (some (gI (0))) g_SH ν) : gCall g_T g_F D 218 [gR 61] g_SH μ Q := by
  have bb := pE_b (hr := hr) (n := n) (p := p) hn.1
  have vv := pE_v (hr := hr) (n := n) (p := p) hn.1
  unfold pOk pPs at k1 k0
  subst ht
  obtain ⟨d, rfl⟩ := gD (show 1 ≤ D by omega)
  refine gC 300 [] rfl ?_
  (conv => whnf); try simp only [gO, gWe, ne_eq, Nat.reduceEqDiff, not_false_eq_true, true_or, or_true, true_and]
  repeat' (first | exact True.intro | (refine ⟨fun hb => ?_, fun hb => ?_⟩ <;> first | (exfalso; omega; done) | exact absurd True.intro hb | ((conv => whnf); try simp only [gO, gWe, ne_eq, Nat.reduceEqDiff, not_false_eq_true, true_or, or_true, true_and])) | (refine ⟨by omega, ?_⟩; (conv => whnf); try simp only [gO, gWe, ne_eq, Nat.reduceEqDiff, not_false_eq_true, true_or, or_true, true_and]) | (refine ⟨fun hb => ?_, ?_⟩ <;> first | (exfalso; omega; done) | exact absurd True.intro hb | ((conv => whnf); try simp only [gO, gWe, ne_eq, Nat.reduceEqDiff, not_false_eq_true, true_or, or_true, true_and])) | fail)
  refine t_216 (by omega) hT hp (by omega) z0 hn (fun ν₁ h1 => ?_)
  rw [show pNum hr n (-1) p = pE1 hr n p from rfl] at h1 ⊢
  have E1 := (hEm.rf.P h1).T (k := 5 * μ 61 22) (v := (pE1 hr n p).1) (by omega)
  have T1 := E1.mt hT
  have P1 : gW ν₁ 80 (5 * μ 61 22) (pE1 hr n p).1 61 20 = (pE1 hr n p).2 := h1.2.1
  have G1 : gW ν₁ 80 (5 * μ 61 22) (pE1 hr n p).1 61 22 = μ 61 22 := h1.2.2 22 (by decide)
  have A1 : gW ν₁ 80 (5 * μ 61 22) (pE1 hr n p).1 80 (5 * μ 61 22) = (pE1 hr n p).1 := gWe _ _ _ _
  by_cases c1 : (pE1 hr n p).1 < 0
  · have f := k0 (fun hh => by omega) _ (E1.T (k := 5 * μ 61 22 + 2) (v := -1) (by omega)) (by rw [if_pos c1]; exact P1) G1
    clear k1 k0 T1 bb
    (conv => whnf); try simp only [gO, gWe, ne_eq, Nat.reduceEqDiff, not_false_eq_true, true_or, or_true, true_and]
    repeat' (first | exact True.intro | (refine ⟨fun hb => ?_, fun hb => ?_⟩ <;> first | (exfalso; omega; done) | exact absurd True.intro hb | ((conv => whnf); try simp only [gO, gWe, ne_eq, Nat.reduceEqDiff, not_false_eq_true, true_or, or_true, true_and])) | (refine ⟨by omega, ?_⟩; (conv => whnf); try simp only [gO, gWe, ne_eq, Nat.reduceEqDiff, not_false_eq_true, true_or, or_true, true_and]) | (refine ⟨fun hb => ?_, ?_⟩ <;> first | (exfalso; omega; done) | exact absurd True.intro hb | ((conv => whnf); try simp only [gO, gWe, ne_eq, Nat.reduceEqDiff, not_false_eq_true, true_or, or_true, true_and])) | fail)
    exact f
  · rw [if_neg c1] at k1 k0
    (conv => whnf); try simp only [gO, gWe, ne_eq, Nat.reduceEqDiff, not_false_eq_true, true_or, or_true, true_and]
    repeat' (first | exact True.intro | (refine ⟨fun hb => ?_, fun hb => ?_⟩ <;> first | (exfalso; omega; done) | exact absurd True.intro hb | ((conv => whnf); try simp only [gO, gWe, ne_eq, Nat.reduceEqDiff, not_false_eq_true, true_or, or_true, true_and])) | (refine ⟨by omega, ?_⟩; (conv => whnf); try simp only [gO, gWe, ne_eq, Nat.reduceEqDiff, not_false_eq_true, true_or, or_true, true_and]) | (refine ⟨fun hb => ?_, ?_⟩ <;> first | (exfalso; omega; done) | exact absurd True.intro hb | ((conv => whnf); try simp only [gO, gWe, ne_eq, Nat.reduceEqDiff, not_false_eq_true, true_or, or_true, true_and])) | fail)
    generalize gW ν₁ 80 (5 * μ 61 22) (pE1 hr n p).1 = m₁ at *
    refine t_217 (by omega) T1 P1 (by omega) (fun ν₂ h2 => ?_)
    rw [show pOpt hr 46 0 7 0 (pE1 hr n p).2 = pE2 hr n p from rfl] at h2 ⊢
    have E2 := (E1.P h2).T (k := 5 * μ 61 22 + 2) (v := (pE2 hr n p).1) (by omega)
    have T2 := E2.mt hT
    have P2 : gW ν₂ 80 (5 * μ 61 22 + 2) (pE2 hr n p).1 61 20 = (pE2 hr n p).2 := h2.2.1
    have G2 : gW ν₂ 80 (5 * μ 61 22 + 2) (pE2 hr n p).1 61 22 = μ 61 22 := (h2.2.2 22 (by decide)).trans G1
    have A12 : gW ν₂ 80 (5 * μ 61 22 + 2) (pE2 hr n p).1 80 (5 * μ 61 22) = (pE1 hr n p).1 := by rw [gWn _ _ _ (by omega), h2.1 80 (by decide)]; exact A1
    have A22 : gW ν₂ 80 (5 * μ 61 22 + 2) (pE2 hr n p).1 80 (5 * μ 61 22 + 2) = (pE2 hr n p).1 := gWe _ _ _ _
    by_cases c2 : (pE2 hr n p).1 < 0
    · have f := k0 (fun hh => by omega) _ E2 (by rw [if_pos c2]; exact P2) G2
      clear k1 k0 T1 T2 bb
      (conv => whnf); try simp only [gO, gWe, ne_eq, Nat.reduceEqDiff, not_false_eq_true, true_or, or_true, true_and]
      repeat' (first | exact True.intro | (refine ⟨fun hb => ?_, fun hb => ?_⟩ <;> first | (exfalso; omega; done) | exact absurd True.intro hb | ((conv => whnf); try simp only [gO, gWe, ne_eq, Nat.reduceEqDiff, not_false_eq_true, true_or, or_true, true_and])) | (refine ⟨by omega, ?_⟩; (conv => whnf); try simp only [gO, gWe, ne_eq, Nat.reduceEqDiff, not_false_eq_true, true_or, or_true, true_and]) | (refine ⟨fun hb => ?_, ?_⟩ <;> first | (exfalso; omega; done) | exact absurd True.intro hb | ((conv => whnf); try simp only [gO, gWe, ne_eq, Nat.reduceEqDiff, not_false_eq_true, true_or, or_true, true_and])) | fail)
      exact f
    · rw [if_neg c2] at k1 k0
      (conv => whnf); try simp only [gO, gWe, ne_eq, Nat.reduceEqDiff, not_false_eq_true, true_or, or_true, true_and]
      repeat' (first | exact True.intro | (refine ⟨fun hb => ?_, fun hb => ?_⟩ <;> first | (exfalso; omega; done) | exact absurd True.intro hb | ((conv => whnf); try simp only [gO, gWe, ne_eq, Nat.reduceEqDiff, not_false_eq_true, true_or, or_true, true_and])) | (refine ⟨by omega, ?_⟩; (conv => whnf); try simp only [gO, gWe, ne_eq, Nat.reduceEqDiff, not_false_eq_true, true_or, or_true, true_and]) | (refine ⟨fun hb => ?_, ?_⟩ <;> first | (exfalso; omega; done) | exact absurd True.intro hb | ((conv => whnf); try simp only [gO, gWe, ne_eq, Nat.reduceEqDiff, not_false_eq_true, true_or, or_true, true_and])) | fail)
      generalize gW ν₂ 80 (5 * μ 61 22 + 2) (pE2 hr n p).1 = m₂ at *
      refine t_214 (by omega) T2 P2 (by omega) (fun c3 ν₃ h3 => ?_) (fun c3 ν₃ h3 => ?_)
      · rw [if_neg (not_not_intro c3)] at k1 k0
        have E3 := E2.P h3
        have T3 := E3.mt hT
        have P3 := h3.2.1
        have G3 : ν₃ 61 22 = μ 61 22 := (h3.2.2 22 (by decide)).trans G2
        have A13 : ν₃ 80 (5 * μ 61 22) = (pE1 hr n p).1 := by rw [h3.1 80 (by decide)]; exact A12
        have A23 : ν₃ 80 (5 * μ 61 22 + 2) = (pE2 hr n p).1 := by rw [h3.1 80 (by decide)]; exact A22
        (conv => whnf); try simp only [gO, gWe, ne_eq, Nat.reduceEqDiff, not_false_eq_true, true_or, or_true, true_and]
        repeat' (first | exact True.intro | (refine ⟨fun hb => ?_, fun hb => ?_⟩ <;> first | (exfalso; omega; done) | exact absurd True.intro hb | ((conv => whnf); try simp only [gO, gWe, ne_eq, Nat.reduceEqDiff, not_false_eq_true, true_or, or_true, true_and])) | (refine ⟨by omega, ?_⟩; (conv => whnf); try simp only [gO, gWe, ne_eq, Nat.reduceEqDiff, not_false_eq_true, true_or, or_true, true_and]) | (refine ⟨fun hb => ?_, ?_⟩ <;> first | (exfalso; omega; done) | exact absurd True.intro hb | ((conv => whnf); try simp only [gO, gWe, ne_eq, Nat.reduceEqDiff, not_false_eq_true, true_or, or_true, true_and])) | fail)
        rw [A13]
        refine t_216 (by omega) T3 P3 (by omega) (by rw [E3.1 62 (by decide)]; exact z0) hn (fun ν₄ h4 => ?_)
        rw [show pNum hr n (pE1 hr n p).1 ((pE2 hr n p).2 + 1) = pE3 hr n p from rfl] at h4 ⊢
        have E4 := (E3.P h4).T (k := 5 * μ 61 22 + 1) (v := (pE3 hr n p).1) (by omega)
        have T4 := E4.mt hT
        have P4 : gW ν₄ 80 (5 * μ 61 22 + 1) (pE3 hr n p).1 61 20 = (pE3 hr n p).2 := h4.2.1
        have G4 : gW ν₄ 80 (5 * μ 61 22 + 1) (pE3 hr n p).1 61 22 = μ 61 22 := (h4.2.2 22 (by decide)).trans G3
        have A14 : gW ν₄ 80 (5 * μ 61 22 + 1) (pE3 hr n p).1 80 (5 * μ 61 22) = (pE1 hr n p).1 := by rw [gWn _ _ _ (by omega), h4.1 80 (by decide)]; exact A13
        have A24 : gW ν₄ 80 (5 * μ 61 22 + 1) (pE3 hr n p).1 80 (5 * μ 61 22 + 2) = (pE2 hr n p).1 := by rw [gWn _ _ _ (by omega), h4.1 80 (by decide)]; exact A23
        have A34 : gW ν₄ 80 (5 * μ 61 22 + 1) (pE3 hr n p).1 80 (5 * μ 61 22 + 1) = (pE3 hr n p).1 := gWe _ _ _ _
        by_cases c4 : (pE3 hr n p).1 < 0
        · have f := k0 (fun hh => by omega) _ ((E4.T (k := 5 * μ 61 22 + 3) (v := -1) (by omega)).T (k := 5 * μ 61 22 + 4) (v := -1) (by omega)) (by rw [if_pos c4]; exact P4) G4
          clear k1 k0 T1 T2 T3 T4 bb
          (conv => whnf); try simp only [gO, gWe, ne_eq, Nat.reduceEqDiff, not_false_eq_true, true_or, or_true, true_and]
          repeat' (first | exact True.intro | (refine ⟨fun hb => ?_, fun hb => ?_⟩ <;> first | (exfalso; omega; done) | exact absurd True.intro hb | ((conv => whnf); try simp only [gO, gWe, ne_eq, Nat.reduceEqDiff, not_false_eq_true, true_or, or_true, true_and])) | (refine ⟨by omega, ?_⟩; (conv => whnf); try simp only [gO, gWe, ne_eq, Nat.reduceEqDiff, not_false_eq_true, true_or, or_true, true_and]) | (refine ⟨fun hb => ?_, ?_⟩ <;> first | (exfalso; omega; done) | exact absurd True.intro hb | ((conv => whnf); try simp only [gO, gWe, ne_eq, Nat.reduceEqDiff, not_false_eq_true, true_or, or_true, true_and])) | fail)
          exact f
        · rw [if_neg c4] at k1 k0
          (conv => whnf); try simp only [gO, gWe, ne_eq, Nat.reduceEqDiff, not_false_eq_true, true_or, or_true, true_and]
          repeat' (first | exact True.intro | (refine ⟨fun hb => ?_, fun hb => ?_⟩ <;> first | (exfalso; omega; done) | exact absurd True.intro hb | ((conv => whnf); try simp only [gO, gWe, ne_eq, Nat.reduceEqDiff, not_false_eq_true, true_or, or_true, true_and])) | (refine ⟨by omega, ?_⟩; (conv => whnf); try simp only [gO, gWe, ne_eq, Nat.reduceEqDiff, not_false_eq_true, true_or, or_true, true_and]) | (refine ⟨fun hb => ?_, ?_⟩ <;> first | (exfalso; omega; done) | exact absurd True.intro hb | ((conv => whnf); try simp only [gO, gWe, ne_eq, Nat.reduceEqDiff, not_false_eq_true, true_or, or_true, true_and])) | fail)
          generalize gW ν₄ 80 (5 * μ 61 22 + 1) (pE3 hr n p).1 = m₄ at *
          refine t_217 (by omega) T4 P4 (by omega) (fun ν₅ h5 => ?_)
          rw [show pOpt hr 46 0 7 0 (pE3 hr n p).2 = pE4 hr n p from rfl] at h5 ⊢
          have E5 := (E4.P h5).T (k := 5 * μ 61 22 + 3) (v := (pE4 hr n p).1) (by omega)
          have T5 := E5.mt hT
          have P5 : gW ν₅ 80 (5 * μ 61 22 + 3) (pE4 hr n p).1 61 20 = (pE4 hr n p).2 := h5.2.1
          have G5 : gW ν₅ 80 (5 * μ 61 22 + 3) (pE4 hr n p).1 61 22 = μ 61 22 := (h5.2.2 22 (by decide)).trans G4
          have A15 : gW ν₅ 80 (5 * μ 61 22 + 3) (pE4 hr n p).1 80 (5 * μ 61 22) = (pE1 hr n p).1 := by rw [gWn _ _ _ (by omega), h5.1 80 (by decide)]; exact A14
          have A25 : gW ν₅ 80 (5 * μ 61 22 + 3) (pE4 hr n p).1 80 (5 * μ 61 22 + 2) = (pE2 hr n p).1 := by rw [gWn _ _ _ (by omega), h5.1 80 (by decide)]; exact A24
          have A35 : gW ν₅ 80 (5 * μ 61 22 + 3) (pE4 hr n p).1 80 (5 * μ 61 22 + 1) = (pE3 hr n p).1 := by rw [gWn _ _ _ (by omega), h5.1 80 (by decide)]; exact A34
          have A45 : gW ν₅ 80 (5 * μ 61 22 + 3) (pE4 hr n p).1 80 (5 * μ 61 22 + 3) = (pE4 hr n p).1 := gWe _ _ _ _
          by_cases c5 : (pE4 hr n p).1 < 0
          · have f := k0 (fun hh => by omega) _ (E5.T (k := 5 * μ 61 22 + 4) (v := -1) (by omega)) (by rw [if_pos c5]; exact P5) G5
            clear k1 k0 T1 T2 T3 T4 T5 bb
            (conv => whnf); try simp only [gO, gWe, ne_eq, Nat.reduceEqDiff, not_false_eq_true, true_or, or_true, true_and]
            repeat' (first | exact True.intro | (refine ⟨fun hb => ?_, fun hb => ?_⟩ <;> first | (exfalso; omega; done) | exact absurd True.intro hb | ((conv => whnf); try simp only [gO, gWe, ne_eq, Nat.reduceEqDiff, not_false_eq_true, true_or, or_true, true_and])) | (refine ⟨by omega, ?_⟩; (conv => whnf); try simp only [gO, gWe, ne_eq, Nat.reduceEqDiff, not_false_eq_true, true_or, or_true, true_and]) | (refine ⟨fun hb => ?_, ?_⟩ <;> first | (exfalso; omega; done) | exact absurd True.intro hb | ((conv => whnf); try simp only [gO, gWe, ne_eq, Nat.reduceEqDiff, not_false_eq_true, true_or, or_true, true_and])) | fail)
            exact f
          · rw [if_neg c5] at k1 k0
            (conv => whnf); try simp only [gO, gWe, ne_eq, Nat.reduceEqDiff, not_false_eq_true, true_or, or_true, true_and]
            repeat' (first | exact True.intro | (refine ⟨fun hb => ?_, fun hb => ?_⟩ <;> first | (exfalso; omega; done) | exact absurd True.intro hb | ((conv => whnf); try simp only [gO, gWe, ne_eq, Nat.reduceEqDiff, not_false_eq_true, true_or, or_true, true_and])) | (refine ⟨by omega, ?_⟩; (conv => whnf); try simp only [gO, gWe, ne_eq, Nat.reduceEqDiff, not_false_eq_true, true_or, or_true, true_and]) | (refine ⟨fun hb => ?_, ?_⟩ <;> first | (exfalso; omega; done) | exact absurd True.intro hb | ((conv => whnf); try simp only [gO, gWe, ne_eq, Nat.reduceEqDiff, not_false_eq_true, true_or, or_true, true_and])) | fail)
            generalize gW ν₅ 80 (5 * μ 61 22 + 3) (pE4 hr n p).1 = m₅ at *
            refine t_217 (by omega) T5 P5 (by omega) (fun ν₆ h6 => ?_)
            rw [show pOpt hr 61 1 3 1 (pE4 hr n p).2 = pE5 hr n p from rfl] at h6 ⊢
            have E6 := (E5.P h6).T (k := 5 * μ 61 22 + 4) (v := (pE5 hr n p).1) (by omega)
            have T6 := E6.mt hT
            have P6 : gW ν₆ 80 (5 * μ 61 22 + 4) (pE5 hr n p).1 61 20 = (pE5 hr n p).2 := h6.2.1
            have G6 : gW ν₆ 80 (5 * μ 61 22 + 4) (pE5 hr n p).1 61 22 = μ 61 22 := (h6.2.2 22 (by decide)).trans G5
            have A16 : gW ν₆ 80 (5 * μ 61 22 + 4) (pE5 hr n p).1 80 (5 * μ 61 22) = (pE1 hr n p).1 := by rw [gWn _ _ _ (by omega), h6.1 80 (by decide)]; exact A15
            have A26 : gW ν₆ 80 (5 * μ 61 22 + 4) (pE5 hr n p).1 80 (5 * μ 61 22 + 2) = (pE2 hr n p).1 := by rw [gWn _ _ _ (by omega), h6.1 80 (by decide)]; exact A25
            have A36 : gW ν₆ 80 (5 * μ 61 22 + 4) (pE5 hr n p).1 80 (5 * μ 61 22 + 1) = (pE3 hr n p).1 := by rw [gWn _ _ _ (by omega), h6.1 80 (by decide)]; exact A35
            have A46 : gW ν₆ 80 (5 * μ 61 22 + 4) (pE5 hr n p).1 80 (5 * μ 61 22 + 3) = (pE4 hr n p).1 := by rw [gWn _ _ _ (by omega), h6.1 80 (by decide)]; exact A45
            have A56 : gW ν₆ 80 (5 * μ 61 22 + 4) (pE5 hr n p).1 80 (5 * μ 61 22 + 4) = (pE5 hr n p).1 := gWe _ _ _ _
            by_cases c6 : (pE5 hr n p).1 < 0
            · have f := k0 (fun hh => by omega) _ E6 (by rw [if_pos c6]; exact P6) G6
              clear k1 k0 T1 T2 T3 T4 T5 T6 bb
              (conv => whnf); try simp only [gO, gWe, ne_eq, Nat.reduceEqDiff, not_false_eq_true, true_or, or_true, true_and]
              repeat' (first | exact True.intro | (refine ⟨fun hb => ?_, fun hb => ?_⟩ <;> first | (exfalso; omega; done) | exact absurd True.intro hb | ((conv => whnf); try simp only [gO, gWe, ne_eq, Nat.reduceEqDiff, not_false_eq_true, true_or, or_true, true_and])) | (refine ⟨by omega, ?_⟩; (conv => whnf); try simp only [gO, gWe, ne_eq, Nat.reduceEqDiff, not_false_eq_true, true_or, or_true, true_and]) | (refine ⟨fun hb => ?_, ?_⟩ <;> first | (exfalso; omega; done) | exact absurd True.intro hb | ((conv => whnf); try simp only [gO, gWe, ne_eq, Nat.reduceEqDiff, not_false_eq_true, true_or, or_true, true_and])) | fail)
              exact f
            · rw [if_neg c6] at k1 k0
              (conv => whnf); try simp only [gO, gWe, ne_eq, Nat.reduceEqDiff, not_false_eq_true, true_or, or_true, true_and]
              repeat' (first | exact True.intro | (refine ⟨fun hb => ?_, fun hb => ?_⟩ <;> first | (exfalso; omega; done) | exact absurd True.intro hb | ((conv => whnf); try simp only [gO, gWe, ne_eq, Nat.reduceEqDiff, not_false_eq_true, true_or, or_true, true_and])) | (refine ⟨by omega, ?_⟩; (conv => whnf); try simp only [gO, gWe, ne_eq, Nat.reduceEqDiff, not_false_eq_true, true_or, or_true, true_and]) | (refine ⟨fun hb => ?_, ?_⟩ <;> first | (exfalso; omega; done) | exact absurd True.intro hb | ((conv => whnf); try simp only [gO, gWe, ne_eq, Nat.reduceEqDiff, not_false_eq_true, true_or, or_true, true_and])) | fail)
              generalize gW ν₆ 80 (5 * μ 61 22 + 4) (pE5 hr n p).1 = m₆ at *
              refine t_214 (by omega) T6 P6 (by omega) (fun c7 ν₇ h7 => ?_) (fun c7 ν₇ h7 => ?_)
              · rw [if_neg (not_not_intro c7)] at k1
                have E7 := E6.P h7
                have G7 : ν₇ 61 22 = μ 61 22 := (h7.2.2 22 (by decide)).trans G6
                have e80 : ν₇ 80 = m₆ 80 := h7.1 80 (by decide)
                have f := k1 ⟨by omega, by omega, c3, by omega, by omega, by omega, c7⟩ (gW ν₇ 61 22 (ν₇ 61 22 + 1)) ⟨E7.1.W (by decide), fun j h1 h2 => by rw [gWn _ _ _ h2]; exact E7.2.1 j h1 h2, E7.2.2⟩ (by rw [gWn _ _ _ (by decide)]; exact h7.2.1) (by rw [gWe]; omega) (by
                  show ν₇ 80 _ = _ ∧ ν₇ 80 _ = _ ∧ ν₇ 80 _ = _ ∧ ν₇ 80 _ = _ ∧ ν₇ 80 _ = _
                  rw [e80]
                  exact ⟨A16, A36, A26, A46, A56⟩)
                clear k1 k0 T1 T2 T3 T4 T5 T6 bb
                (conv => whnf); try simp only [gO, gWe, ne_eq, Nat.reduceEqDiff, not_false_eq_true, true_or, or_true, true_and]
                repeat' (first | exact True.intro | (refine ⟨fun hb => ?_, fun hb => ?_⟩ <;> first | (exfalso; omega; done) | exact absurd True.intro hb | ((conv => whnf); try simp only [gO, gWe, ne_eq, Nat.reduceEqDiff, not_false_eq_true, true_or, or_true, true_and])) | (refine ⟨by omega, ?_⟩; (conv => whnf); try simp only [gO, gWe, ne_eq, Nat.reduceEqDiff, not_false_eq_true, true_or, or_true, true_and]) | (refine ⟨fun hb => ?_, ?_⟩ <;> first | (exfalso; omega; done) | exact absurd True.intro hb | ((conv => whnf); try simp only [gO, gWe, ne_eq, Nat.reduceEqDiff, not_false_eq_true, true_or, or_true, true_and])) | fail)
                exact f
              · rw [if_pos c7] at k0
                have E7 := E6.P h7
                have f := k0 (fun hh => c7 hh.2.2.2.2.2.2) ν₇ E7 h7.2.1 ((h7.2.2 22 (by decide)).trans G6)
                clear k1 k0 T1 T2 T3 T4 T5 T6 bb
                (conv => whnf); try simp only [gO, gWe, ne_eq, Nat.reduceEqDiff, not_false_eq_true, true_or, or_true, true_and]
                repeat' (first | exact True.intro | (refine ⟨fun hb => ?_, fun hb => ?_⟩ <;> first | (exfalso; omega; done) | exact absurd True.intro hb | ((conv => whnf); try simp only [gO, gWe, ne_eq, Nat.reduceEqDiff, not_false_eq_true, true_or, or_true, true_and])) | (refine ⟨by omega, ?_⟩; (conv => whnf); try simp only [gO, gWe, ne_eq, Nat.reduceEqDiff, not_false_eq_true, true_or, or_true, true_and]) | (refine ⟨fun hb => ?_, ?_⟩ <;> first | (exfalso; omega; done) | exact absurd True.intro hb | ((conv => whnf); try simp only [gO, gWe, ne_eq, Nat.reduceEqDiff, not_false_eq_true, true_or, or_true, true_and])) | fail)
                exact f
      · rw [if_pos c3] at k0
        have E3 := E2.P h3
        have f := k0 (fun hh => c3 hh.2.2.1) ν₃ E3 h3.2.1 ((h3.2.2 22 (by decide)).trans G2)
        clear k1 k0 T1 T2 bb
        (conv => whnf); try simp only [gO, gWe, ne_eq, Nat.reduceEqDiff, not_false_eq_true, true_or, or_true, true_and]
        repeat' (first | exact True.intro | (refine ⟨fun hb => ?_, fun hb => ?_⟩ <;> first | (exfalso; omega; done) | exact absurd True.intro hb | ((conv => whnf); try simp only [gO, gWe, ne_eq, Nat.reduceEqDiff, not_false_eq_true, true_or, or_true, true_and])) | (refine ⟨by omega, ?_⟩; (conv => whnf); try simp only [gO, gWe, ne_eq, Nat.reduceEqDiff, not_false_eq_true, true_or, or_true, true_and]) | (refine ⟨fun hb => ?_, ?_⟩ <;> first | (exfalso; omega; done) | exact absurd True.intro hb | ((conv => whnf); try simp only [gO, gWe, ne_eq, Nat.reduceEqDiff, not_false_eq_true, true_or, or_true, true_and])) | fail)
        exact f
def hTo (hr : Int → Int) (n : Int) (ν : MU) (K : Nat) : Prop := ∀ k : Nat, k < K → ν 80 (5 * (k : Int)) = (pE1 hr n (pPo hr n k)).1 ∧ ν 80 (5 * (k : Int) + 1) = (pE3 hr n (pPo hr n k)).1 ∧ ν 80 (5 * (k : Int) + 2) = (pE2 hr n (pPo hr n k)).1 ∧ ν 80 (5 * (k : Int) + 3) = (pE4 hr n (pPo hr n k)).1 ∧ ν 80 (5 * (k : Int) + 4) = (pE5 hr n (pPo hr n k)).1
theorem t_219 {D : Nat} (hD : 7 ≤ D) {μ : MU} {Q : GQ} {n : Int} {K : Nat} {hr : Int → Int} (hT : hMt μ hr) (z0 : μ 62 0 = n) (hn : 0 ≤ n ∧ n ≤ 12) (K1 : K ≤ 25) (hb0 : ∀ k : Nat, k ≤ K → 0 ≤ pPo hr n k ∧ pPo hr n k ≤ 100) (hg : hGd hr n (μ 61 4) K) (he : hEn hr n (μ 61 4) K)
    (ko : (μ 61 4) ≤ pPo hr n K → ∀ ν : MU, gFr [61, 80] μ ν → (∀ j : Int, j ≠ 20 → j ≠ 22 → ν 61 j = μ 61 j) → ν 61 22 = K → hTo hr n ν K → Q (some (gI (1))) g_SH ν)
    (kf : pPo hr n K < (μ 61 4) → ∀ ν : MU, gFr [61, 80] μ ν → (∀ j : Int, j ≠ 20 → j ≠ 22 → ν 61 j = μ 61 j) → ν 61 20 = pPs hr n (pPo hr n K) → Q (some (gI (0))) g_SH ν) : gCall g_T g_F D 219 [gR 61] g_SH μ Q := by
  have T := hT.1
  obtain ⟨d, rfl⟩ := gD (show 1 ≤ D by omega)
  refine gC 300 [12] rfl ?_
  (conv => whnf); try simp only [gO, gWe, ne_eq, Nat.reduceEqDiff, not_false_eq_true, true_or, or_true, true_and]
  repeat' (first | exact True.intro | (refine ⟨fun hb => ?_, fun hb => ?_⟩ <;> first | (exfalso; omega; done) | exact absurd True.intro hb | ((conv => whnf); try simp only [gO, gWe, ne_eq, Nat.reduceEqDiff, not_false_eq_true, true_or, or_true, true_and])) | (refine ⟨by omega, ?_⟩; (conv => whnf); try simp only [gO, gWe, ne_eq, Nat.reduceEqDiff, not_false_eq_true, true_or, or_true, true_and]) | (refine ⟨fun hb => ?_, ?_⟩ <;> first | (exfalso; omega; done) | exact absurd True.intro hb | ((conv => whnf); try simp only [gO, gWe, ne_eq, Nat.reduceEqDiff, not_false_eq_true, true_or, or_true, true_and])) | fail)
  have key : ∀ k : Int, 0 ≤ k → k ≤ K → ∀ ρ : MU, gFr [61, 80] μ ρ → (∀ j : Int, j ≠ 20 → j ≠ 22 → ρ 61 j = μ 61 j) → ρ 61 22 = k → ρ 61 20 = pPo hr n k.toNat → hTo hr n ρ k.toNat → gG g_T g_F (gCall g_T g_F d) 0 (fun _ => 0) (g_T 219) Q 12 [gR 61, gI 1] [] g_SH ρ 0 0 := by
    refine g_up (fun k k0 k1 ih ρ hρ r1 r3 r2 ht => ?_) (fun ρ hρ r1 r3 r2 ht => ?_)
    · have b := hb0 k.toNat (by omega)
      have g := hg k.toNat (by omega)
      have mt := hMt_c (r1 4 (by decide) (by decide)) (hρ 65 (by decide)) hT
      have r4 : ρ 61 4 = μ 61 4 := r1 4 (by decide) (by decide)
      have i := fun ρ' a b c d e => ih ρ' a b c d e
      have ek : ((k.toNat : Nat) : Int) = k := by omega
      rw [show (k + 1).toNat = k.toNat + 1 by omega, show pPo hr n (k.toNat + 1) = pPs hr n (pPo hr n k.toNat) from rfl] at i
      have g1 := g.1
      clear ih ko kf he
      refine gB_gG [12] 300 ?_
      (conv => whnf); try simp only [gO, gWe, ne_eq, Nat.reduceEqDiff, not_false_eq_true, true_or, or_true, true_and]
      repeat' (first | exact True.intro | (refine ⟨fun hb => ?_, fun hb => ?_⟩ <;> first | (exfalso; omega; done) | exact absurd True.intro hb | ((conv => whnf); try simp only [gO, gWe, ne_eq, Nat.reduceEqDiff, not_false_eq_true, true_or, or_true, true_and])) | (refine ⟨by omega, ?_⟩; (conv => whnf); try simp only [gO, gWe, ne_eq, Nat.reduceEqDiff, not_false_eq_true, true_or, or_true, true_and]) | (refine ⟨fun hb => ?_, ?_⟩ <;> first | (exfalso; omega; done) | exact absurd True.intro hb | ((conv => whnf); try simp only [gO, gWe, ne_eq, Nat.reduceEqDiff, not_false_eq_true, true_or, or_true, true_and])) | fail)
      refine t_218 (by omega) (p := pPo hr n k.toNat) (t := k) mt r2 (by omega) (by rw [hρ 62 (by decide)]; exact z0) hn r3 (by omega) (fun _ ν hν n2 n3 n4 => ?_) (fun c => absurd g.2 c)
      have j := i ν (hρ.tr hν.1) (fun j h1 h2 => (hν.2.1 j h1 h2).trans (r1 j h1 h2)) n3 n2 (fun q hq => by
        by_cases c : q = k.toNat
        · rw [c, ek]; exact n4
        · have h := ht q (by omega)
          have w := hν.2.2
          rw [w _ (by omega), w _ (by omega), w _ (by omega), w _ (by omega), w _ (by omega)]
          exact h)
      clear i
      (conv => whnf); try simp only [gO, gWe, ne_eq, Nat.reduceEqDiff, not_false_eq_true, true_or, or_true, true_and]
      repeat' (first | exact True.intro | (refine ⟨fun hb => ?_, fun hb => ?_⟩ <;> first | (exfalso; omega; done) | exact absurd True.intro hb | ((conv => whnf); try simp only [gO, gWe, ne_eq, Nat.reduceEqDiff, not_false_eq_true, true_or, or_true, true_and])) | (refine ⟨by omega, ?_⟩; (conv => whnf); try simp only [gO, gWe, ne_eq, Nat.reduceEqDiff, not_false_eq_true, true_or, or_true, true_and]) | (refine ⟨fun hb => ?_, ?_⟩ <;> first | (exfalso; omega; done) | exact absurd True.intro hb | ((conv => whnf); try simp only [gO, gWe, ne_eq, Nat.reduceEqDiff, not_false_eq_true, true_or, or_true, true_and])) | fail)
      exact j
    · have b := hb0 K (by omega)
      have mt := hMt_c (r1 4 (by decide) (by decide)) (hρ 65 (by decide)) hT
      have r4 : ρ 61 4 = μ 61 4 := r1 4 (by decide) (by decide)
      rw [Int.toNat_natCast] at r2 ht
      rcases he with c | ⟨c, d⟩
      · have f := ko c ρ hρ r1 r3 ht
        clear ko kf hb0 ht
        refine gB_gG [12] 300 ?_
        (conv => whnf); try simp only [gO, gWe, ne_eq, Nat.reduceEqDiff, not_false_eq_true, true_or, or_true, true_and]
        repeat' (first | exact True.intro | (refine ⟨fun hb => ?_, fun hb => ?_⟩ <;> first | (exfalso; omega; done) | exact absurd True.intro hb | ((conv => whnf); try simp only [gO, gWe, ne_eq, Nat.reduceEqDiff, not_false_eq_true, true_or, or_true, true_and])) | (refine ⟨by omega, ?_⟩; (conv => whnf); try simp only [gO, gWe, ne_eq, Nat.reduceEqDiff, not_false_eq_true, true_or, or_true, true_and]) | (refine ⟨fun hb => ?_, ?_⟩ <;> first | (exfalso; omega; done) | exact absurd True.intro hb | ((conv => whnf); try simp only [gO, gWe, ne_eq, Nat.reduceEqDiff, not_false_eq_true, true_or, or_true, true_and])) | fail)
        exact f
      · have f := fun ν h1 h2 => kf c ν h1 h2
        clear ko kf hb0 ht
        refine gB_gG [12] 300 ?_
        (conv => whnf); try simp only [gO, gWe, ne_eq, Nat.reduceEqDiff, not_false_eq_true, true_or, or_true, true_and]
        repeat' (first | exact True.intro | (refine ⟨fun hb => ?_, fun hb => ?_⟩ <;> first | (exfalso; omega; done) | exact absurd True.intro hb | ((conv => whnf); try simp only [gO, gWe, ne_eq, Nat.reduceEqDiff, not_false_eq_true, true_or, or_true, true_and])) | (refine ⟨by omega, ?_⟩; (conv => whnf); try simp only [gO, gWe, ne_eq, Nat.reduceEqDiff, not_false_eq_true, true_or, or_true, true_and]) | (refine ⟨fun hb => ?_, ?_⟩ <;> first | (exfalso; omega; done) | exact absurd True.intro hb | ((conv => whnf); try simp only [gO, gWe, ne_eq, Nat.reduceEqDiff, not_false_eq_true, true_or, or_true, true_and])) | fail)
        refine t_218 (by omega) (p := pPo hr n K) (t := (K : Int)) mt r2 (by omega) (by rw [hρ 62 (by decide)]; exact z0) hn r3 (by omega) (fun c => absurd c d) (fun _ ν hν n2 _ => ?_)
        have f2 := f ν (hρ.tr hν.1) (fun j h1 h2 => (hν.2.1 j h1 h2).trans (r1 j h1 h2)) n2
        clear f
        (conv => whnf); try simp only [gO, gWe, ne_eq, Nat.reduceEqDiff, not_false_eq_true, true_or, or_true, true_and]
        repeat' (first | exact True.intro | (refine ⟨fun hb => ?_, fun hb => ?_⟩ <;> first | (exfalso; omega; done) | exact absurd True.intro hb | ((conv => whnf); try simp only [gO, gWe, ne_eq, Nat.reduceEqDiff, not_false_eq_true, true_or, or_true, true_and])) | (refine ⟨by omega, ?_⟩; (conv => whnf); try simp only [gO, gWe, ne_eq, Nat.reduceEqDiff, not_false_eq_true, true_or, or_true, true_and]) | (refine ⟨fun hb => ?_, ?_⟩ <;> first | (exfalso; omega; done) | exact absurd True.intro hb | ((conv => whnf); try simp only [gO, gWe, ne_eq, Nat.reduceEqDiff, not_false_eq_true, true_or, or_true, true_and])) | fail)
        refine gB_gG [] 300 ?_
        (conv => whnf); try simp only [gO, gWe, ne_eq, Nat.reduceEqDiff, not_false_eq_true, true_or, or_true, true_and]
        repeat' (first | exact True.intro | (refine ⟨fun hb => ?_, fun hb => ?_⟩ <;> first | (exfalso; omega; done) | exact absurd True.intro hb | ((conv => whnf); try simp only [gO, gWe, ne_eq, Nat.reduceEqDiff, not_false_eq_true, true_or, or_true, true_and])) | (refine ⟨by omega, ?_⟩; (conv => whnf); try simp only [gO, gWe, ne_eq, Nat.reduceEqDiff, not_false_eq_true, true_or, or_true, true_and]) | (refine ⟨fun hb => ?_, ?_⟩ <;> first | (exfalso; omega; done) | exact absurd True.intro hb | ((conv => whnf); try simp only [gO, gWe, ne_eq, Nat.reduceEqDiff, not_false_eq_true, true_or, or_true, true_and])) | fail)
        exact f2
  exact key 0 (by omega) (by omega) _ ((gFr.rf.W (by decide)).W (by decide)) (fun j h1 h2 => by rw [gWn _ _ _ h2, gWn _ _ _ h1]) (gWe _ _ _ _) (by rw [gWn _ _ _ (by decide), gWe]; rfl) (fun q hq => by omega)
