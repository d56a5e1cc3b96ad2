/-! clear, addNode, removeEdge, setGroup, addEdge -/
theorem fin_m {μ ν τ : MU} (hA : iAll μ) (hν : gFr [0, 1, 2, 3, 4, 5, 6, 7, 8, 9, 10, 11, 12, 13, 14, 15, 16, 17, 18] μ ν) (hG : iG ν) (hL : iL ν) (l0 : (ν 0 6) = 0) (hτ : gFr [61, 62] ν τ) (h4 : τ 61 4 = μ 61 4) (h5 : (τ 61 5) = 0) (m2 : τ 62 2 = 0) (m9 : τ 62 129 = 0) (hM : iGm τ) : iAll τ := by
  have R := fr_g (μ := μ) (τ := τ) ((hν.mo (by decide)).tr (hτ.mo (by decide))) h4
  have g : hSg ν τ := fun c a b => hτ c (fun hc => by simp only [List.mem_cons, List.not_mem_nil, or_false] at hc; omega)
  exact fin_g hA R.1 R.2 (iG_g g hG) (iL_g g hL) hM (by rw [hτ 0 (by decide)]; exact l0) m2 m9 h5
theorem iGm_k {μ τ : MU} {ν : MU} (hτ : gFr [61, 62] ν τ) (h0 : τ 62 0 = (ν 1 0) ∧ τ 62 1 = (ν 1 1)) (h1 : ∀ i : Int, 0 ≤ i → i < (ν 1 0) → τ 62 (5 + i) = (ν 2) i ∧ τ 62 (17 + i) = (ν 3) i) (h2 : ∀ e : Int, 0 ≤ e → e < (ν 1 1) → τ 62 (29 + 5 * e + 0) = (ν 4) e ∧ τ 62 (29 + 5 * e + 1) = (ν 5) e ∧ τ 62 (29 + 5 * e + 2) = (ν 6) e ∧ τ 62 (29 + 5 * e + 3) = (ν 7) e ∧ τ 62 (29 + 5 * e + 4) = (ν 8) e) : iGm τ := by
  unfold iGm
  rw [hτ 1 (by decide), hτ 2 (by decide), hτ 3 (by decide), hτ 4 (by decide), hτ 5 (by decide), hτ 6 (by decide), hτ 7 (by decide), hτ 8 (by decide)]
  exact ⟨h0, h1, h2⟩
theorem t_128r {D : Nat} (hD : 2 ≤ D) {μ : MU} {Q : GQ} {a n : Int} (z0 : μ 62 0 = n) (hn : 0 ≤ n ∧ n ≤ 12) (h1 : (0 ≤ a ∧ a < n) → Q (some (gI (1))) g_SH μ) (h0 : ¬ (0 ≤ a ∧ a < n) → Q (some (gI (0))) g_SH μ) : gCall g_T g_F D 128 [gR 61, gI a] g_SH μ Q := by
  obtain ⟨d, rfl⟩ := gD (show 1 ≤ D by omega)
  refine gC 300 [] rfl ?_
  (conv => whnf); try simp only [gO, gWe, ne_eq, Nat.reduceEqDiff, not_false_eq_true, true_or, or_true, true_and]
  repeat' (first | exact True.intro | (refine ⟨fun hb => ?_, fun hb => ?_⟩ <;> first | (exfalso; omega; done) | exact absurd True.intro hb | ((conv => whnf); try simp only [gO, gWe, ne_eq, Nat.reduceEqDiff, not_false_eq_true, true_or, or_true, true_and])) | (refine ⟨by omega, ?_⟩; (conv => whnf); try simp only [gO, gWe, ne_eq, Nat.reduceEqDiff, not_false_eq_true, true_or, or_true, true_and]) | (refine ⟨fun hb => ?_, ?_⟩ <;> first | (exfalso; omega; done) | exact absurd True.intro hb | ((conv => whnf); try simp only [gO, gWe, ne_eq, Nat.reduceEqDiff, not_false_eq_true, true_or, or_true, true_and])) | fail)
  refine t_125 (by omega) (fun hb => ?_) (fun hb => ?_)
  · (conv => whnf); try simp only [gO, gWe, ne_eq, Nat.reduceEqDiff, not_false_eq_true, true_or, or_true, true_and]
    repeat' (first | exact True.intro | (refine ⟨fun hb => ?_, fun hb => ?_⟩ <;> first | (exfalso; omega; done) | exact absurd True.intro hb | ((conv => whnf); try simp only [gO, gWe, ne_eq, Nat.reduceEqDiff, not_false_eq_true, true_or, or_true, true_and])) | (refine ⟨by omega, ?_⟩; (conv => whnf); try simp only [gO, gWe, ne_eq, Nat.reduceEqDiff, not_false_eq_true, true_or, or_true, true_and]) | (refine ⟨fun hb => ?_, ?_⟩ <;> first | (exfalso; omega; done) | exact absurd True.intro hb | ((conv => whnf); try simp only [gO, gWe, ne_eq, Nat.reduceEqDiff, not_false_eq_true, true_or, or_true, true_and])) | fail)
    exact h1 (by omega)
  · (conv => whnf); try simp only [gO, gWe, ne_eq, Nat.reduceEqDiff, not_false_eq_true, true_or, or_true, true_and]
    repeat' (first | exact True.intro | (refine ⟨fun hb => ?_, fun hb => ?_⟩ <;> first | (exfalso; omega; done) | exact absurd True.intro hb | ((conv => whnf); try simp only [gO, gWe, ne_eq, Nat.reduceEqDiff, not_false_eq_true, true_or, or_true, true_and])) | (refine ⟨by omega, ?_⟩; (conv => whnf); try simp only [gO, gWe, ne_eq, Nat.reduceEqDiff, not_false_eq_true, true_or, or_true, true_and]) | (refine ⟨fun hb => ?_, ?_⟩ <;> first | (exfalso; omega; done) | exact absurd True.intro hb | ((conv => whnf); try simp only [gO, gWe, ne_eq, Nat.reduceEqDiff, not_false_eq_true, true_or, or_true, true_and])) | fail)
    exact h0 (by omega)
theorem c_75 {D : Nat} (hD : 30 ≤ D) {μ : MU} (hA : iAll μ) : hCs D 75 131 [] μ := by
  intro Q Q' h h'
  have m0 := hA.2.1.1.1.1
  have m9 := hA.2.1.2.1.2
  obtain ⟨d, rfl⟩ := gD (show 1 ≤ D by omega)
  refine gC 300 [] rfl ?_
  (conv => whnf); try simp only [gO, gWe, ne_eq, Nat.reduceEqDiff, not_false_eq_true, true_or, or_true, true_and]
  repeat' (first | exact True.intro | (refine ⟨fun hb => ?_, fun hb => ?_⟩ <;> first | (exfalso; omega; done) | exact absurd True.intro hb | ((conv => whnf); try simp only [gO, gWe, ne_eq, Nat.reduceEqDiff, not_false_eq_true, true_or, or_true, true_and])) | (refine ⟨by omega, ?_⟩; (conv => whnf); try simp only [gO, gWe, ne_eq, Nat.reduceEqDiff, not_false_eq_true, true_or, or_true, true_and]) | (refine ⟨fun hb => ?_, ?_⟩ <;> first | (exfalso; omega; done) | exact absurd True.intro hb | ((conv => whnf); try simp only [gO, gWe, ne_eq, Nat.reduceEqDiff, not_false_eq_true, true_or, or_true, true_and])) | fail)
  refine t_14 (by omega) ?_
  (conv => whnf); try simp only [gO, gWe, ne_eq, Nat.reduceEqDiff, not_false_eq_true, true_or, or_true, true_and]
  repeat' (first | exact True.intro | (refine ⟨fun hb => ?_, fun hb => ?_⟩ <;> first | (exfalso; omega; done) | exact absurd True.intro hb | ((conv => whnf); try simp only [gO, gWe, ne_eq, Nat.reduceEqDiff, not_false_eq_true, true_or, or_true, true_and])) | (refine ⟨by omega, ?_⟩; (conv => whnf); try simp only [gO, gWe, ne_eq, Nat.reduceEqDiff, not_false_eq_true, true_or, or_true, true_and]) | (refine ⟨fun hb => ?_, ?_⟩ <;> first | (exfalso; omega; done) | exact absurd True.intro hb | ((conv => whnf); try simp only [gO, gWe, ne_eq, Nat.reduceEqDiff, not_false_eq_true, true_or, or_true, true_and])) | fail)
  have a0 : gW (gW μ 1 0 0) 1 1 0 1 0 = 0 := by rw [gWn _ _ _ (by omega), gWe]
  have a1 : gW (gW μ 1 0 0) 1 1 0 1 1 = 0 := gWe _ _ _ _
  have f1 : gFr [1] μ (gW (gW μ 1 0 0) 1 1 0) := (gFr.rf.W (by decide)).W (by decide)
  generalize gW (gW μ 1 0 0) 1 1 0 = μ₁ at *
  refine t_116 (by omega) ⟨by omega, fun i i0 i1 => by omega, fun e e0 e1 => by omega⟩ (fun ν hν hL l0 => ?_)
  have n0 : ν 1 0 = 0 := by rw [hν 1 (by decide)]; exact a0
  have n1 : ν 1 1 = 0 := by rw [hν 1 (by decide)]; exact a1
  have fμ : gFr [0, 1, 2, 3, 4, 5, 6, 7, 8, 9, 10, 11, 12, 13, 14, 15, 16, 17, 18] μ ν := (f1.mo (by decide)).tr (hν.mo (by decide))
  have e62 : ν 62 = μ 62 := fμ 62 (by decide)
  have e61 : ν 61 = μ 61 := fμ 61 (by decide)
  (conv => whnf); try simp only [gO, gWe, ne_eq, Nat.reduceEqDiff, not_false_eq_true, true_or, or_true, true_and]
  repeat' (first | exact True.intro | (refine ⟨fun hb => ?_, fun hb => ?_⟩ <;> first | (exfalso; omega; done) | exact absurd True.intro hb | ((conv => whnf); try simp only [gO, gWe, ne_eq, Nat.reduceEqDiff, not_false_eq_true, true_or, or_true, true_and])) | (refine ⟨by omega, ?_⟩; (conv => whnf); try simp only [gO, gWe, ne_eq, Nat.reduceEqDiff, not_false_eq_true, true_or, or_true, true_and]) | (refine ⟨fun hb => ?_, ?_⟩ <;> first | (exfalso; omega; done) | exact absurd True.intro hb | ((conv => whnf); try simp only [gO, gWe, ne_eq, Nat.reduceEqDiff, not_false_eq_true, true_or, or_true, true_and])) | fail)
  refine h _ ν ?_
  refine gC 300 [] rfl ?_
  (conv => whnf); try simp only [gO, gWe, ne_eq, Nat.reduceEqDiff, not_false_eq_true, true_or, or_true, true_and]
  repeat' (first | exact True.intro | (refine ⟨fun hb => ?_, fun hb => ?_⟩ <;> first | (exfalso; omega; done) | exact absurd True.intro hb | ((conv => whnf); try simp only [gO, gWe, ne_eq, Nat.reduceEqDiff, not_false_eq_true, true_or, or_true, true_and])) | (refine ⟨by omega, ?_⟩; (conv => whnf); try simp only [gO, gWe, ne_eq, Nat.reduceEqDiff, not_false_eq_true, true_or, or_true, true_and]) | (refine ⟨fun hb => ?_, ?_⟩ <;> first | (exfalso; omega; done) | exact absurd True.intro hb | ((conv => whnf); try simp only [gO, gWe, ne_eq, Nat.reduceEqDiff, not_false_eq_true, true_or, or_true, true_and])) | fail)
  refine t_130 (by omega) ?_
  (conv => whnf); try simp only [gO, gWe, ne_eq, Nat.reduceEqDiff, not_false_eq_true, true_or, or_true, true_and]
  repeat' (first | exact True.intro | (refine ⟨fun hb => ?_, fun hb => ?_⟩ <;> first | (exfalso; omega; done) | exact absurd True.intro hb | ((conv => whnf); try simp only [gO, gWe, ne_eq, Nat.reduceEqDiff, not_false_eq_true, true_or, or_true, true_and])) | (refine ⟨by omega, ?_⟩; (conv => whnf); try simp only [gO, gWe, ne_eq, Nat.reduceEqDiff, not_false_eq_true, true_or, or_true, true_and]) | (refine ⟨fun hb => ?_, ?_⟩ <;> first | (exfalso; omega; done) | exact absurd True.intro hb | ((conv => whnf); try simp only [gO, gWe, ne_eq, Nat.reduceEqDiff, not_false_eq_true, true_or, or_true, true_and])) | fail)
  have hτ : gFr [61, 62] ν (gW (gW (gW (gW ν 62 0 0) 62 1 0) 62 2 0) 61 5 0) := (((gFr.rf.W (by decide)).W (by decide)).W (by decide)).W (by decide)
  have T : ∀ k : Int, (gW (gW (gW (gW ν 62 0 0) 62 1 0) 62 2 0) 61 5 0) 62 k = (gW (gW (gW ν 62 0 0) 62 1 0) 62 2 0) 62 k := fun _ => rfl
  refine h' _ _ _ (by rw [e62]; exact m0) (fin_m hA fμ ⟨by omega, fun i i0 i1 => by omega, fun e e0 e1 => by omega⟩ hL l0 hτ ?_ (gWe _ _ _ _) ?_ ?_ (iGm_k (μ := μ) hτ ⟨?_, ?_⟩ (fun i i0 i1 => by omega) (fun e e0 e1 => by omega)))
  · rw [gWn _ _ _ (show (4 : Int) ≠ 5 by omega)]
    show ν 61 4 = μ 61 4
    rw [e61]
  · rw [T, gWe]
  · rw [T, gWn _ _ _ (by omega), gWn _ _ _ (by omega), gWn _ _ _ (by omega), e62]; exact m9
  · rw [T, gWn _ _ _ (by omega), gWn _ _ _ (by omega), gWe]; omega
  · rw [T, gWn _ _ _ (by omega), gWe]; omega
theorem c_76 {D : Nat} (hD : 30 ≤ D) {μ : MU} (hA : iAll μ) {w g : Int} : hCs D 76 132 [gI w, gI g] μ := by
  intro Q Q' h h'
  have hG := hA.1.1
  have G := hG.1
  have M := hA.2.1.1
  have M0 := M.1
  have m9 := hA.2.1.2.1.2
  by_cases c1 : 1 ≤ w ∧ w ≤ 9
  · by_cases c2 : 0 ≤ g ∧ g ≤ 3
    · by_cases c3 : (μ 1 0) < 12
      · have f1 : gFr [1, 2, 3] μ (gW (gW (gW μ 2 (μ 1 0) w) 3 (μ 1 0) g) 1 0 ((μ 1 0) + 1)) := ((gFr.rf.W (by decide)).W (by decide)).W (by decide)
        have a0 : gW (gW (gW μ 2 (μ 1 0) w) 3 (μ 1 0) g) 1 0 ((μ 1 0) + 1) 1 0 = (μ 1 0) + 1 := gWe _ _ _ _
        have a1 : gW (gW (gW μ 2 (μ 1 0) w) 3 (μ 1 0) g) 1 0 ((μ 1 0) + 1) 1 1 = (μ 1 1) := by rw [gWn _ _ _ (by omega)]; rfl
        have a2 : gW (gW (gW μ 2 (μ 1 0) w) 3 (μ 1 0) g) 1 0 ((μ 1 0) + 1) 2 = gUp (μ 2) (μ 1 0) w := by
          show gW μ 2 (μ 1 0) w 2 = _
          exact gW_up
        have a3 : gW (gW (gW μ 2 (μ 1 0) w) 3 (μ 1 0) g) 1 0 ((μ 1 0) + 1) 3 = gUp (μ 3) (μ 1 0) g := by
          show gW (gW μ 2 (μ 1 0) w) 3 (μ 1 0) g 3 = _
          rw [gW_up]
          rfl
        obtain ⟨d, rfl⟩ := gD (show 1 ≤ D by omega)
        refine gC 300 [] rfl ?_
        (conv => whnf); try simp only [gO, gWe, ne_eq, Nat.reduceEqDiff, not_false_eq_true, true_or, or_true, true_and]
        repeat' (first | exact True.intro | (refine ⟨fun hb => ?_, fun hb => ?_⟩ <;> first | (exfalso; omega; done) | exact absurd True.intro hb | ((conv => whnf); try simp only [gO, gWe, ne_eq, Nat.reduceEqDiff, not_false_eq_true, true_or, or_true, true_and])) | (refine ⟨by omega, ?_⟩; (conv => whnf); try simp only [gO, gWe, ne_eq, Nat.reduceEqDiff, not_false_eq_true, true_or, or_true, true_and]) | (refine ⟨fun hb => ?_, ?_⟩ <;> first | (exfalso; omega; done) | exact absurd True.intro hb | ((conv => whnf); try simp only [gO, gWe, ne_eq, Nat.reduceEqDiff, not_false_eq_true, true_or, or_true, true_and])) | fail)
        refine t_15 (by omega) (by omega) ?_
        (conv => whnf); try simp only [gO, gWe, ne_eq, Nat.reduceEqDiff, not_false_eq_true, true_or, or_true, true_and]
        repeat' (first | exact True.intro | (refine ⟨fun hb => ?_, fun hb => ?_⟩ <;> first | (exfalso; omega; done) | exact absurd True.intro hb | ((conv => whnf); try simp only [gO, gWe, ne_eq, Nat.reduceEqDiff, not_false_eq_true, true_or, or_true, true_and])) | (refine ⟨by omega, ?_⟩; (conv => whnf); try simp only [gO, gWe, ne_eq, Nat.reduceEqDiff, not_false_eq_true, true_or, or_true, true_and]) | (refine ⟨fun hb => ?_, ?_⟩ <;> first | (exfalso; omega; done) | exact absurd True.intro hb | ((conv => whnf); try simp only [gO, gWe, ne_eq, Nat.reduceEqDiff, not_false_eq_true, true_or, or_true, true_and])) | fail)
        generalize gW (gW (gW μ 2 (μ 1 0) w) 3 (μ 1 0) g) 1 0 ((μ 1 0) + 1) = μ₁ at *
        have hG1 : iG μ₁ := by
          refine ⟨by omega, fun i i0 i1 => ?_, fun e e0 e1 => ?_⟩
          · rw [a2, a3]
            by_cases c : i = (μ 1 0)
            · rw [c, gUp_e, gUp_e]; exact ⟨c1, c2⟩
            · rw [gUp_n c, gUp_n c]; exact hG.2.1 i i0 (by omega)
          · rw [f1 4 (by decide), f1 5 (by decide), f1 6 (by decide), f1 7 (by decide), f1 8 (by decide)]
            have := hG.2.2 e e0 (by omega)
            omega
        refine t_116 (by omega) hG1 (fun ν hν hL l0 => ?_)
        have fμ : gFr [0, 1, 2, 3, 4, 5, 6, 7, 8, 9, 10, 11, 12, 13, 14, 15, 16, 17, 18] μ ν := (f1.mo (by decide)).tr (hν.mo (by decide))
        have hG2 : iG ν := iG_f (hν 1 (by decide)) (hν 2 (by decide)) (hν 3 (by decide)) (hν 4 (by decide)) (hν 5 (by decide)) (hν 6 (by decide)) (hν 7 (by decide)) (hν 8 (by decide)) hG1
        have e62 : ν 62 = μ 62 := fμ 62 (by decide)
        have e61 : ν 61 = μ 61 := fμ 61 (by decide)
        have z0 : ν 62 0 = (μ 1 0) := by rw [e62]; exact M0.1
        have r0 : gW (gW ν 62 (5 + ν 62 0) w) 62 (17 + gW ν 62 (5 + ν 62 0) w 62 0) g 62 0 = ν 62 0 := by
          rw [gWn _ _ _ (by rw [gWn _ _ _ (by omega)]; omega), gWn _ _ _ (by omega)]
        have r1 : gW ν 62 (5 + ν 62 0) w 62 0 = ν 62 0 := gWn _ _ _ (by omega)
        (conv => whnf); try simp only [gO, gWe, ne_eq, Nat.reduceEqDiff, not_false_eq_true, true_or, or_true, true_and]
        repeat' (first | exact True.intro | (refine ⟨fun hb => ?_, fun hb => ?_⟩ <;> first | (exfalso; omega; done) | exact absurd True.intro hb | ((conv => whnf); try simp only [gO, gWe, ne_eq, Nat.reduceEqDiff, not_false_eq_true, true_or, or_true, true_and])) | (refine ⟨by omega, ?_⟩; (conv => whnf); try simp only [gO, gWe, ne_eq, Nat.reduceEqDiff, not_false_eq_true, true_or, or_true, true_and]) | (refine ⟨fun hb => ?_, ?_⟩ <;> first | (exfalso; omega; done) | exact absurd True.intro hb | ((conv => whnf); try simp only [gO, gWe, ne_eq, Nat.reduceEqDiff, not_false_eq_true, true_or, or_true, true_and])) | fail)
        refine h _ ν ?_
        refine gC 300 [] rfl ?_
        (conv => whnf); try simp only [gO, gWe, ne_eq, Nat.reduceEqDiff, not_false_eq_true, true_or, or_true, true_and]
        repeat' (first | exact True.intro | (refine ⟨fun hb => ?_, fun hb => ?_⟩ <;> first | (exfalso; omega; done) | exact absurd True.intro hb | ((conv => whnf); try simp only [gO, gWe, ne_eq, Nat.reduceEqDiff, not_false_eq_true, true_or, or_true, true_and])) | (refine ⟨by omega, ?_⟩; (conv => whnf); try simp only [gO, gWe, ne_eq, Nat.reduceEqDiff, not_false_eq_true, true_or, or_true, true_and]) | (refine ⟨fun hb => ?_, ?_⟩ <;> first | (exfalso; omega; done) | exact absurd True.intro hb | ((conv => whnf); try simp only [gO, gWe, ne_eq, Nat.reduceEqDiff, not_false_eq_true, true_or, or_true, true_and])) | fail)
        refine t_125 (by omega) (fun _ => ?_) (fun c => absurd c1 c)
        (conv => whnf); try simp only [gO, gWe, ne_eq, Nat.reduceEqDiff, not_false_eq_true, true_or, or_true, true_and]
        repeat' (first | exact True.intro | (refine ⟨fun hb => ?_, fun hb => ?_⟩ <;> first | (exfalso; omega; done) | exact absurd True.intro hb | ((conv => whnf); try simp only [gO, gWe, ne_eq, Nat.reduceEqDiff, not_false_eq_true, true_or, or_true, true_and])) | (refine ⟨by omega, ?_⟩; (conv => whnf); try simp only [gO, gWe, ne_eq, Nat.reduceEqDiff, not_false_eq_true, true_or, or_true, true_and]) | (refine ⟨fun hb => ?_, ?_⟩ <;> first | (exfalso; omega; done) | exact absurd True.intro hb | ((conv => whnf); try simp only [gO, gWe, ne_eq, Nat.reduceEqDiff, not_false_eq_true, true_or, or_true, true_and])) | fail)
        refine t_125 (by omega) (fun _ => ?_) (fun c => absurd c2 c)
        rw [r1] at r0
        (conv => whnf); try simp only [gO, gWe, ne_eq, Nat.reduceEqDiff, not_false_eq_true, true_or, or_true, true_and]
        repeat' (first | exact True.intro | (refine ⟨fun hb => ?_, fun hb => ?_⟩ <;> first | (exfalso; omega; done) | exact absurd True.intro hb | ((conv => whnf); try simp only [gO, gWe, ne_eq, Nat.reduceEqDiff, not_false_eq_true, true_or, or_true, true_and])) | (refine ⟨by omega, ?_⟩; (conv => whnf); try simp only [gO, gWe, ne_eq, Nat.reduceEqDiff, not_false_eq_true, true_or, or_true, true_and]) | (refine ⟨fun hb => ?_, ?_⟩ <;> first | (exfalso; omega; done) | exact absurd True.intro hb | ((conv => whnf); try simp only [gO, gWe, ne_eq, Nat.reduceEqDiff, not_false_eq_true, true_or, or_true, true_and])) | fail)
        rw [r1, r0]
        repeat' (first | exact True.intro | (refine ⟨fun hb => ?_, fun hb => ?_⟩ <;> first | (exfalso; omega; done) | exact absurd True.intro hb | ((conv => whnf); try simp only [gO, gWe, ne_eq, Nat.reduceEqDiff, not_false_eq_true, true_or, or_true, true_and])) | (refine ⟨by omega, ?_⟩; (conv => whnf); try simp only [gO, gWe, ne_eq, Nat.reduceEqDiff, not_false_eq_true, true_or, or_true, true_and]) | (refine ⟨fun hb => ?_, ?_⟩ <;> first | (exfalso; omega; done) | exact absurd True.intro hb | ((conv => whnf); try simp only [gO, gWe, ne_eq, Nat.reduceEqDiff, not_false_eq_true, true_or, or_true, true_and])) | fail)
        refine t_130 (by omega) ?_
        have hτ : gFr [61, 62] ν (gW (gW (gW (gW (gW ν 62 (5 + ν 62 0) w) 62 (17 + ν 62 0) g) 62 0 (ν 62 0 + 1)) 62 2 0) 61 5 0) := ((((gFr.rf.W (by decide)).W (by decide)).W (by decide)).W (by decide)).W (by decide)
        have T : ∀ k : Int, k ≠ 0 → k ≠ 2 → (gW (gW (gW (gW (gW ν 62 (5 + ν 62 0) w) 62 (17 + ν 62 0) g) 62 0 (ν 62 0 + 1)) 62 2 0) 61 5 0) 62 k = if k = 17 + (μ 1 0) then g else if k = 5 + (μ 1 0) then w else μ 62 k := fun k k0 k2 => by
          show gW (gW (gW (gW ν 62 (5 + ν 62 0) w) 62 (17 + ν 62 0) g) 62 0 (ν 62 0 + 1)) 62 2 0 62 k = _
          rw [gWn _ _ _ k2, gWn _ _ _ k0, z0]
          by_cases d1 : k = 17 + (μ 1 0)
          · rw [d1, gWe, if_pos rfl]
          · rw [gWn _ _ _ d1, if_neg d1]
            by_cases d2 : k = 5 + (μ 1 0)
            · rw [d2, gWe, if_pos rfl]
            · rw [gWn _ _ _ d2, if_neg d2, e62]
        have T0 : (gW (gW (gW (gW (gW ν 62 (5 + ν 62 0) w) 62 (17 + ν 62 0) g) 62 0 (ν 62 0 + 1)) 62 2 0) 61 5 0) 62 0 = (μ 1 0) + 1 := by
          show gW (gW (gW (gW ν 62 (5 + ν 62 0) w) 62 (17 + ν 62 0) g) 62 0 (ν 62 0 + 1)) 62 2 0 62 0 = _
          rw [gWn _ _ _ (by omega), gWe]; omega
        have T2 : (gW (gW (gW (gW (gW ν 62 (5 + ν 62 0) w) 62 (17 + ν 62 0) g) 62 0 (ν 62 0 + 1)) 62 2 0) 61 5 0) 62 2 = 0 := (congrFun (gO (show (62 : Nat) ≠ 61 by decide)) 2).trans (gWe _ _ _ _)
        have T5 : (gW (gW (gW (gW (gW ν 62 (5 + ν 62 0) w) 62 (17 + ν 62 0) g) 62 0 (ν 62 0 + 1)) 62 2 0) 61 5 0) 61 5 = 0 := gWe _ _ _ _
        have T4 : (gW (gW (gW (gW (gW ν 62 (5 + ν 62 0) w) 62 (17 + ν 62 0) g) 62 0 (ν 62 0 + 1)) 62 2 0) 61 5 0) 61 4 = μ 61 4 := by
          rw [gWn _ _ _ (by omega)]
          show ν 61 4 = μ 61 4
          rw [e61]
        generalize gW (gW (gW (gW (gW ν 62 (5 + ν 62 0) w) 62 (17 + ν 62 0) g) 62 0 (ν 62 0 + 1)) 62 2 0) 61 5 0 = τ at *
        have k0 : ν 1 0 = (μ 1 0) + 1 := by rw [hν 1 (by decide)]; exact a0
        have k1 : ν 1 1 = (μ 1 1) := by rw [hν 1 (by decide)]; exact a1
        have k2 : ν 2 = gUp (μ 2) (μ 1 0) w := (hν 2 (by decide)).trans a2
        have k3 : ν 3 = gUp (μ 3) (μ 1 0) g := (hν 3 (by decide)).trans a3
        have fin : iAll τ := by
          refine fin_m hA fμ hG2 hL l0 hτ T4 T5 T2 (by rw [T 129 (by omega) (by omega), if_neg (by omega), if_neg (by omega)]; exact m9) (iGm_k (μ := μ) hτ ⟨by omega, ?_⟩ (fun i i0 i1 => ?_) (fun e e0 e1 => ?_))
          · rw [T 1 (by omega) (by omega), if_neg (by omega), if_neg (by omega)]; omega
          · rw [k2, k3]
            by_cases c : i = (μ 1 0)
            · rw [c, gUp_e, gUp_e, T _ (by omega) (by omega), if_neg (by omega), if_pos rfl, T _ (by omega) (by omega), if_pos rfl]; exact ⟨rfl, rfl⟩
            · rw [gUp_n c, gUp_n c, T _ (by omega) (by omega), if_neg (by omega), if_neg (by omega), T _ (by omega) (by omega), if_neg (by omega), if_neg (by omega)]
              exact M.2.1 i i0 (by omega)
          · rw [hν 4 (by decide), hν 5 (by decide), hν 6 (by decide), hν 7 (by decide), hν 8 (by decide), f1 4 (by decide), f1 5 (by decide), f1 6 (by decide), f1 7 (by decide), f1 8 (by decide)]
            have m := M.2.2 e e0 (by omega)
            refine ⟨?_, ?_, ?_, ?_, ?_⟩ <;> rw [T _ (by omega) (by omega), if_neg (by omega), if_neg (by omega)]
            · exact m.1
            · exact m.2.1
            · exact m.2.2.1
            · exact m.2.2.2.1
            · exact m.2.2.2.2
        (conv => whnf); try simp only [gO, gWe, ne_eq, Nat.reduceEqDiff, not_false_eq_true, true_or, or_true, true_and]
        repeat' (first | exact True.intro | (refine ⟨fun hb => ?_, fun hb => ?_⟩ <;> first | (exfalso; omega; done) | exact absurd True.intro hb | ((conv => whnf); try simp only [gO, gWe, ne_eq, Nat.reduceEqDiff, not_false_eq_true, true_or, or_true, true_and])) | (refine ⟨by omega, ?_⟩; (conv => whnf); try simp only [gO, gWe, ne_eq, Nat.reduceEqDiff, not_false_eq_true, true_or, or_true, true_and]) | (refine ⟨fun hb => ?_, ?_⟩ <;> first | (exfalso; omega; done) | exact absurd True.intro hb | ((conv => whnf); try simp only [gO, gWe, ne_eq, Nat.reduceEqDiff, not_false_eq_true, true_or, or_true, true_and])) | fail)
        rw [T0]
        exact h' _ _ τ (by omega) fin
      · obtain ⟨d, rfl⟩ := gD (show 1 ≤ D by omega)
        refine gC 300 [] rfl ?_
        (conv => whnf); try simp only [gO, gWe, ne_eq, Nat.reduceEqDiff, not_false_eq_true, true_or, or_true, true_and]
        repeat' (first | exact True.intro | (refine ⟨fun hb => ?_, fun hb => ?_⟩ <;> first | (exfalso; omega; done) | exact absurd True.intro hb | ((conv => whnf); try simp only [gO, gWe, ne_eq, Nat.reduceEqDiff, not_false_eq_true, true_or, or_true, true_and])) | (refine ⟨by omega, ?_⟩; (conv => whnf); try simp only [gO, gWe, ne_eq, Nat.reduceEqDiff, not_false_eq_true, true_or, or_true, true_and]) | (refine ⟨fun hb => ?_, ?_⟩ <;> first | (exfalso; omega; done) | exact absurd True.intro hb | ((conv => whnf); try simp only [gO, gWe, ne_eq, Nat.reduceEqDiff, not_false_eq_true, true_or, or_true, true_and])) | fail)
        refine h _ μ ?_
        refine gC 300 [] rfl ?_
        (conv => whnf); try simp only [gO, gWe, ne_eq, Nat.reduceEqDiff, not_false_eq_true, true_or, or_true, true_and]
        repeat' (first | exact True.intro | (refine ⟨fun hb => ?_, fun hb => ?_⟩ <;> first | (exfalso; omega; done) | exact absurd True.intro hb | ((conv => whnf); try simp only [gO, gWe, ne_eq, Nat.reduceEqDiff, not_false_eq_true, true_or, or_true, true_and])) | (refine ⟨by omega, ?_⟩; (conv => whnf); try simp only [gO, gWe, ne_eq, Nat.reduceEqDiff, not_false_eq_true, true_or, or_true, true_and]) | (refine ⟨fun hb => ?_, ?_⟩ <;> first | (exfalso; omega; done) | exact absurd True.intro hb | ((conv => whnf); try simp only [gO, gWe, ne_eq, Nat.reduceEqDiff, not_false_eq_true, true_or, or_true, true_and])) | fail)
        refine t_125 (by omega) (fun _ => ?_) (fun c => absurd c1 c)
        (conv => whnf); try simp only [gO, gWe, ne_eq, Nat.reduceEqDiff, not_false_eq_true, true_or, or_true, true_and]
        repeat' (first | exact True.intro | (refine ⟨fun hb => ?_, fun hb => ?_⟩ <;> first | (exfalso; omega; done) | exact absurd True.intro hb | ((conv => whnf); try simp only [gO, gWe, ne_eq, Nat.reduceEqDiff, not_false_eq_true, true_or, or_true, true_and])) | (refine ⟨by omega, ?_⟩; (conv => whnf); try simp only [gO, gWe, ne_eq, Nat.reduceEqDiff, not_false_eq_true, true_or, or_true, true_and]) | (refine ⟨fun hb => ?_, ?_⟩ <;> first | (exfalso; omega; done) | exact absurd True.intro hb | ((conv => whnf); try simp only [gO, gWe, ne_eq, Nat.reduceEqDiff, not_false_eq_true, true_or, or_true, true_and])) | fail)
        refine t_125 (by omega) (fun _ => ?_) (fun c => absurd c2 c)
        (conv => whnf); try simp only [gO, gWe, ne_eq, Nat.reduceEqDiff, not_false_eq_true, true_or, or_true, true_and]
        repeat' (first | exact True.intro | (refine ⟨fun hb => ?_, fun hb => ?_⟩ <;> first | (exfalso; omega; done) | exact absurd True.intro hb | ((conv => whnf); try simp only [gO, gWe, ne_eq, Nat.reduceEqDiff, not_false_eq_true, true_or, or_true, true_and])) | (refine ⟨by omega, ?_⟩; (conv => whnf); try simp only [gO, gWe, ne_eq, Nat.reduceEqDiff, not_false_eq_true, true_or, or_true, true_and]) | (refine ⟨fun hb => ?_, ?_⟩ <;> first | (exfalso; omega; done) | exact absurd True.intro hb | ((conv => whnf); try simp only [gO, gWe, ne_eq, Nat.reduceEqDiff, not_false_eq_true, true_or, or_true, true_and])) | fail)
        exact h' _ _ μ rfl hA
    · have bad : ∀ (D : Nat) (hD : 20 ≤ D) (Q : GQ), Q (some (gI (-1))) g_SH μ → gCall g_T g_F D 132 [gR 61, gI w, gI g] g_SH μ Q := by
        intro D hD Q k
        obtain ⟨d, rfl⟩ := gD (show 1 ≤ D by omega)
        refine gC 300 [] rfl ?_
        (conv => whnf); try simp only [gO, gWe, ne_eq, Nat.reduceEqDiff, not_false_eq_true, true_or, or_true, true_and]
        repeat' (first | exact True.intro | (refine ⟨fun hb => ?_, fun hb => ?_⟩ <;> first | (exfalso; omega; done) | exact absurd True.intro hb | ((conv => whnf); try simp only [gO, gWe, ne_eq, Nat.reduceEqDiff, not_false_eq_true, true_or, or_true, true_and])) | (refine ⟨by omega, ?_⟩; (conv => whnf); try simp only [gO, gWe, ne_eq, Nat.reduceEqDiff, not_false_eq_true, true_or, or_true, true_and]) | (refine ⟨fun hb => ?_, ?_⟩ <;> first | (exfalso; omega; done) | exact absurd True.intro hb | ((conv => whnf); try simp only [gO, gWe, ne_eq, Nat.reduceEqDiff, not_false_eq_true, true_or, or_true, true_and])) | fail)
        refine t_125 (by omega) (fun _ => ?_) (fun c => absurd c1 c)
        (conv => whnf); try simp only [gO, gWe, ne_eq, Nat.reduceEqDiff, not_false_eq_true, true_or, or_true, true_and]
        repeat' (first | exact True.intro | (refine ⟨fun hb => ?_, fun hb => ?_⟩ <;> first | (exfalso; omega; done) | exact absurd True.intro hb | ((conv => whnf); try simp only [gO, gWe, ne_eq, Nat.reduceEqDiff, not_false_eq_true, true_or, or_true, true_and])) | (refine ⟨by omega, ?_⟩; (conv => whnf); try simp only [gO, gWe, ne_eq, Nat.reduceEqDiff, not_false_eq_true, true_or, or_true, true_and]) | (refine ⟨fun hb => ?_, ?_⟩ <;> first | (exfalso; omega; done) | exact absurd True.intro hb | ((conv => whnf); try simp only [gO, gWe, ne_eq, Nat.reduceEqDiff, not_false_eq_true, true_or, or_true, true_and])) | fail)
        refine t_125 (by omega) (fun c => absurd c c2) (fun _ => ?_)
        (conv => whnf); try simp only [gO, gWe, ne_eq, Nat.reduceEqDiff, not_false_eq_true, true_or, or_true, true_and]
        repeat' (first | exact True.intro | (refine ⟨fun hb => ?_, fun hb => ?_⟩ <;> first | (exfalso; omega; done) | exact absurd True.intro hb | ((conv => whnf); try simp only [gO, gWe, ne_eq, Nat.reduceEqDiff, not_false_eq_true, true_or, or_true, true_and])) | (refine ⟨by omega, ?_⟩; (conv => whnf); try simp only [gO, gWe, ne_eq, Nat.reduceEqDiff, not_false_eq_true, true_or, or_true, true_and]) | (refine ⟨fun hb => ?_, ?_⟩ <;> first | (exfalso; omega; done) | exact absurd True.intro hb | ((conv => whnf); try simp only [gO, gWe, ne_eq, Nat.reduceEqDiff, not_false_eq_true, true_or, or_true, true_and])) | fail)
        exact k
      obtain ⟨d, rfl⟩ := gD (show 1 ≤ D by omega)
      refine gC 300 [] rfl ?_
      (conv => whnf); try simp only [gO, gWe, ne_eq, Nat.reduceEqDiff, not_false_eq_true, true_or, or_true, true_and]
      repeat' (first | exact True.intro | (refine ⟨fun hb => ?_, fun hb => ?_⟩ <;> first | (exfalso; omega; done) | exact absurd True.intro hb | ((conv => whnf); try simp only [gO, gWe, ne_eq, Nat.reduceEqDiff, not_false_eq_true, true_or, or_true, true_and])) | (refine ⟨by omega, ?_⟩; (conv => whnf); try simp only [gO, gWe, ne_eq, Nat.reduceEqDiff, not_false_eq_true, true_or, or_true, true_and]) | (refine ⟨fun hb => ?_, ?_⟩ <;> first | (exfalso; omega; done) | exact absurd True.intro hb | ((conv => whnf); try simp only [gO, gWe, ne_eq, Nat.reduceEqDiff, not_false_eq_true, true_or, or_true, true_and])) | fail)
      · exact h _ μ (bad _ (by omega) _ (h' _ _ μ rfl hA))
      · exact h _ μ (bad _ (by omega) _ (h' _ _ μ rfl hA))
  · have bad : ∀ (D : Nat) (hD : 20 ≤ D) (Q : GQ), Q (some (gI (-1))) g_SH μ → gCall g_T g_F D 132 [gR 61, gI w, gI g] g_SH μ Q := by
      intro D hD Q k
      obtain ⟨d, rfl⟩ := gD (show 1 ≤ D by omega)
      refine gC 300 [] rfl ?_
      (conv => whnf); try simp only [gO, gWe, ne_eq, Nat.reduceEqDiff, not_false_eq_true, true_or, or_true, true_and]
      repeat' (first | exact True.intro | (refine ⟨fun hb => ?_, fun hb => ?_⟩ <;> first | (exfalso; omega; done) | exact absurd True.intro hb | ((conv => whnf); try simp only [gO, gWe, ne_eq, Nat.reduceEqDiff, not_false_eq_true, true_or, or_true, true_and])) | (refine ⟨by omega, ?_⟩; (conv => whnf); try simp only [gO, gWe, ne_eq, Nat.reduceEqDiff, not_false_eq_true, true_or, or_true, true_and]) | (refine ⟨fun hb => ?_, ?_⟩ <;> first | (exfalso; omega; done) | exact absurd True.intro hb | ((conv => whnf); try simp only [gO, gWe, ne_eq, Nat.reduceEqDiff, not_false_eq_true, true_or, or_true, true_and])) | fail)
      refine t_125 (by omega) (fun c => absurd c c1) (fun _ => ?_)
      (conv => whnf); try simp only [gO, gWe, ne_eq, Nat.reduceEqDiff, not_false_eq_true, true_or, or_true, true_and]
      repeat' (first | exact True.intro | (refine ⟨fun hb => ?_, fun hb => ?_⟩ <;> first | (exfalso; omega; done) | exact absurd True.intro hb | ((conv => whnf); try simp only [gO, gWe, ne_eq, Nat.reduceEqDiff, not_false_eq_true, true_or, or_true, true_and])) | (refine ⟨by omega, ?_⟩; (conv => whnf); try simp only [gO, gWe, ne_eq, Nat.reduceEqDiff, not_false_eq_true, true_or, or_true, true_and]) | (refine ⟨fun hb => ?_, ?_⟩ <;> first | (exfalso; omega; done) | exact absurd True.intro hb | ((conv => whnf); try simp only [gO, gWe, ne_eq, Nat.reduceEqDiff, not_false_eq_true, true_or, or_true, true_and])) | fail)
      exact k
    obtain ⟨d, rfl⟩ := gD (show 1 ≤ D by omega)
    refine gC 300 [] rfl ?_
    (conv => whnf); try simp only [gO, gWe, ne_eq, Nat.reduceEqDiff, not_false_eq_true, true_or, or_true, true_and]
    repeat' (first | exact True.intro | (refine ⟨fun hb => ?_, fun hb => ?_⟩ <;> first | (exfalso; omega; done) | exact absurd True.intro hb | ((conv => whnf); try simp only [gO, gWe, ne_eq, Nat.reduceEqDiff, not_false_eq_true, true_or, or_true, true_and])) | (refine ⟨by omega, ?_⟩; (conv => whnf); try simp only [gO, gWe, ne_eq, Nat.reduceEqDiff, not_false_eq_true, true_or, or_true, true_and]) | (refine ⟨fun hb => ?_, ?_⟩ <;> first | (exfalso; omega; done) | exact absurd True.intro hb | ((conv => whnf); try simp only [gO, gWe, ne_eq, Nat.reduceEqDiff, not_false_eq_true, true_or, or_true, true_and])) | fail)
    · exact h _ μ (bad _ (by omega) _ (h' _ _ μ rfl hA))
    · exact h _ μ (bad _ (by omega) _ (h' _ _ μ rfl hA))
theorem c_78 {D : Nat} (hD : 30 ≤ D) {μ : MU} (hA : iAll μ) : hCs D 78 135 [] μ := by
  intro Q Q' h h'
  have hG := hA.1.1
  have G := hG.1
  have M := hA.2.1.1
  have M0 := M.1
  have m9 := hA.2.1.2.1.2
  by_cases c1 : 0 < (μ 1 1)
  · have f1 : gFr [1] μ (gW μ 1 1 ((μ 1 1) - 1)) := gFr.rf.W (by decide)
    have a1 : gW μ 1 1 ((μ 1 1) - 1) 1 1 = (μ 1 1) - 1 := gWe _ _ _ _
    have a0 : gW μ 1 1 ((μ 1 1) - 1) 1 0 = (μ 1 0) := gWn _ _ _ (by omega)
    have hG1 : iG (gW μ 1 1 ((μ 1 1) - 1)) := by
      refine ⟨by omega, fun i i0 i1 => ?_, fun e e0 e1 => ?_⟩
      · exact hG.2.1 i i0 (by omega)
      · have := hG.2.2 e e0 (by omega)
        rw [a0]
        exact this
    obtain ⟨d, rfl⟩ := gD (show 1 ≤ D by omega)
    refine gC 300 [] rfl ?_
    (conv => whnf); try simp only [gO, gWe, ne_eq, Nat.reduceEqDiff, not_false_eq_true, true_or, or_true, true_and]
    repeat' (first | exact True.intro | (refine ⟨fun hb => ?_, fun hb => ?_⟩ <;> first | (exfalso; omega; done) | exact absurd True.intro hb | ((conv => whnf); try simp only [gO, gWe, ne_eq, Nat.reduceEqDiff, not_false_eq_true, true_or, or_true, true_and])) | (refine ⟨by omega, ?_⟩; (conv => whnf); try simp only [gO, gWe, ne_eq, Nat.reduceEqDiff, not_false_eq_true, true_or, or_true, true_and]) | (refine ⟨fun hb => ?_, ?_⟩ <;> first | (exfalso; omega; done) | exact absurd True.intro hb | ((conv => whnf); try simp only [gO, gWe, ne_eq, Nat.reduceEqDiff, not_false_eq_true, true_or, or_true, true_and])) | fail)
    refine t_116 (by omega) hG1 (fun ν hν hL l0 => ?_)
    have fμ : gFr [0, 1, 2, 3, 4, 5, 6, 7, 8, 9, 10, 11, 12, 13, 14, 15, 16, 17, 18] μ ν := (f1.mo (by decide)).tr (hν.mo (by decide))
    have hG2 : iG ν := iG_f (hν 1 (by decide)) (hν 2 (by decide)) (hν 3 (by decide)) (hν 4 (by decide)) (hν 5 (by decide)) (hν 6 (by decide)) (hν 7 (by decide)) (hν 8 (by decide)) hG1
    have e62 : ν 62 = μ 62 := fμ 62 (by decide)
    have e61 : ν 61 = μ 61 := fμ 61 (by decide)
    have k0 : ν 1 0 = (μ 1 0) := by rw [hν 1 (by decide)]; exact a0
    have k1 : ν 1 1 = (μ 1 1) - 1 := by rw [hν 1 (by decide)]; exact a1
    have z1 : ν 62 1 = (μ 1 1) := by rw [e62]; exact M0.2
    (conv => whnf); try simp only [gO, gWe, ne_eq, Nat.reduceEqDiff, not_false_eq_true, true_or, or_true, true_and]
    repeat' (first | exact True.intro | (refine ⟨fun hb => ?_, fun hb => ?_⟩ <;> first | (exfalso; omega; done) | exact absurd True.intro hb | ((conv => whnf); try simp only [gO, gWe, ne_eq, Nat.reduceEqDiff, not_false_eq_true, true_or, or_true, true_and])) | (refine ⟨by omega, ?_⟩; (conv => whnf); try simp only [gO, gWe, ne_eq, Nat.reduceEqDiff, not_false_eq_true, true_or, or_true, true_and]) | (refine ⟨fun hb => ?_, ?_⟩ <;> first | (exfalso; omega; done) | exact absurd True.intro hb | ((conv => whnf); try simp only [gO, gWe, ne_eq, Nat.reduceEqDiff, not_false_eq_true, true_or, or_true, true_and])) | fail)
    rw [k1]
    refine h _ ν ?_
    refine gC 300 [] rfl ?_
    (conv => whnf); try simp only [gO, gWe, ne_eq, Nat.reduceEqDiff, not_false_eq_true, true_or, or_true, true_and]
    repeat' (first | exact True.intro | (refine ⟨fun hb => ?_, fun hb => ?_⟩ <;> first | (exfalso; omega; done) | exact absurd True.intro hb | ((conv => whnf); try simp only [gO, gWe, ne_eq, Nat.reduceEqDiff, not_false_eq_true, true_or, or_true, true_and])) | (refine ⟨by omega, ?_⟩; (conv => whnf); try simp only [gO, gWe, ne_eq, Nat.reduceEqDiff, not_false_eq_true, true_or, or_true, true_and]) | (refine ⟨fun hb => ?_, ?_⟩ <;> first | (exfalso; omega; done) | exact absurd True.intro hb | ((conv => whnf); try simp only [gO, gWe, ne_eq, Nat.reduceEqDiff, not_false_eq_true, true_or, or_true, true_and])) | fail)
    refine t_130 (by omega) ?_
    have hτ : gFr [61, 62] ν (gW (gW (gW ν 62 1 (ν 62 1 - 1)) 62 2 0) 61 5 0) := ((gFr.rf.W (by decide)).W (by decide)).W (by decide)
    have T : ∀ k : Int, k ≠ 1 → k ≠ 2 → (gW (gW (gW ν 62 1 (ν 62 1 - 1)) 62 2 0) 61 5 0) 62 k = μ 62 k := fun k k0 k2 => by
      show gW (gW ν 62 1 (ν 62 1 - 1)) 62 2 0 62 k = _
      rw [gWn _ _ _ k2, gWn _ _ _ k0, e62]
    have T1 : (gW (gW (gW ν 62 1 (ν 62 1 - 1)) 62 2 0) 61 5 0) 62 1 = (μ 1 1) - 1 := by
      show gW (gW ν 62 1 (ν 62 1 - 1)) 62 2 0 62 1 = _
      rw [gWn _ _ _ (by omega), gWe]; omega
    have T2 : (gW (gW (gW ν 62 1 (ν 62 1 - 1)) 62 2 0) 61 5 0) 62 2 = 0 := (congrFun (gO (show (62 : Nat) ≠ 61 by decide)) 2).trans (gWe _ _ _ _)
    have T5 : (gW (gW (gW ν 62 1 (ν 62 1 - 1)) 62 2 0) 61 5 0) 61 5 = 0 := gWe _ _ _ _
    have T4 : (gW (gW (gW ν 62 1 (ν 62 1 - 1)) 62 2 0) 61 5 0) 61 4 = μ 61 4 := by
      rw [gWn _ _ _ (by omega)]
      show ν 61 4 = μ 61 4
      rw [e61]
    generalize gW (gW (gW ν 62 1 (ν 62 1 - 1)) 62 2 0) 61 5 0 = τ at *
    have fin : iAll τ := by
      refine fin_m hA fμ hG2 hL l0 hτ T4 T5 T2 (by rw [T 129 (by omega) (by omega)]; exact m9) (iGm_k (μ := μ) hτ ⟨?_, by omega⟩ (fun i i0 i1 => ?_) (fun e e0 e1 => ?_))
      · rw [T 0 (by omega) (by omega)]; omega
      · rw [hν 2 (by decide), hν 3 (by decide), T _ (by omega) (by omega), T _ (by omega) (by omega)]
        exact M.2.1 i i0 (by omega)
      · rw [hν 4 (by decide), hν 5 (by decide), hν 6 (by decide), hν 7 (by decide), hν 8 (by decide), T _ (by omega) (by omega), T _ (by omega) (by omega), T _ (by omega) (by omega), T _ (by omega) (by omega), T _ (by omega) (by omega)]
        exact M.2.2 e e0 (by omega)
    (conv => whnf); try simp only [gO, gWe, ne_eq, Nat.reduceEqDiff, not_false_eq_true, true_or, or_true, true_and]
    repeat' (first | exact True.intro | (refine ⟨fun hb => ?_, fun hb => ?_⟩ <;> first | (exfalso; omega; done) | exact absurd True.intro hb | ((conv => whnf); try simp only [gO, gWe, ne_eq, Nat.reduceEqDiff, not_false_eq_true, true_or, or_true, true_and])) | (refine ⟨by omega, ?_⟩; (conv => whnf); try simp only [gO, gWe, ne_eq, Nat.reduceEqDiff, not_false_eq_true, true_or, or_true, true_and]) | (refine ⟨fun hb => ?_, ?_⟩ <;> first | (exfalso; omega; done) | exact absurd True.intro hb | ((conv => whnf); try simp only [gO, gWe, ne_eq, Nat.reduceEqDiff, not_false_eq_true, true_or, or_true, true_and])) | fail)
    rw [T1]
    exact h' _ _ τ rfl fin
  · obtain ⟨d, rfl⟩ := gD (show 1 ≤ D by omega)
    refine gC 300 [] rfl ?_
    (conv => whnf); try simp only [gO, gWe, ne_eq, Nat.reduceEqDiff, not_false_eq_true, true_or, or_true, true_and]
    repeat' (first | exact True.intro | (refine ⟨fun hb => ?_, fun hb => ?_⟩ <;> first | (exfalso; omega; done) | exact absurd True.intro hb | ((conv => whnf); try simp only [gO, gWe, ne_eq, Nat.reduceEqDiff, not_false_eq_true, true_or, or_true, true_and])) | (refine ⟨by omega, ?_⟩; (conv => whnf); try simp only [gO, gWe, ne_eq, Nat.reduceEqDiff, not_false_eq_true, true_or, or_true, true_and]) | (refine ⟨fun hb => ?_, ?_⟩ <;> first | (exfalso; omega; done) | exact absurd True.intro hb | ((conv => whnf); try simp only [gO, gWe, ne_eq, Nat.reduceEqDiff, not_false_eq_true, true_or, or_true, true_and])) | fail)
    refine h _ μ ?_
    refine gC 300 [] rfl ?_
    (conv => whnf); try simp only [gO, gWe, ne_eq, Nat.reduceEqDiff, not_false_eq_true, true_or, or_true, true_and]
    repeat' (first | exact True.intro | (refine ⟨fun hb => ?_, fun hb => ?_⟩ <;> first | (exfalso; omega; done) | exact absurd True.intro hb | ((conv => whnf); try simp only [gO, gWe, ne_eq, Nat.reduceEqDiff, not_false_eq_true, true_or, or_true, true_and])) | (refine ⟨by omega, ?_⟩; (conv => whnf); try simp only [gO, gWe, ne_eq, Nat.reduceEqDiff, not_false_eq_true, true_or, or_true, true_and]) | (refine ⟨fun hb => ?_, ?_⟩ <;> first | (exfalso; omega; done) | exact absurd True.intro hb | ((conv => whnf); try simp only [gO, gWe, ne_eq, Nat.reduceEqDiff, not_false_eq_true, true_or, or_true, true_and])) | fail)
    exact h' _ _ μ rfl hA
theorem c_79 {D : Nat} (hD : 30 ≤ D) {μ : MU} (hA : iAll μ) {n g : Int} : hCs D 79 136 [gI n, gI g] μ := by
  intro Q Q' h h'
  have hG := hA.1.1
  have G := hG.1
  have M := hA.2.1.1
  have M0 := M.1
  have m9 := hA.2.1.2.1.2
  by_cases c1 : 0 ≤ n ∧ n < (μ 1 0)
  · by_cases c2 : 0 ≤ g ∧ g ≤ 3
    · have f1 : gFr [3] μ (gW μ 3 n g) := gFr.rf.W (by decide)
      have a3 : gW μ 3 n g 3 = gUp (μ 3) n g := gW_up
      have hG1 : iG (gW μ 3 n g) := by
        refine ⟨hG.1, fun i i0 i1 => ?_, fun e e0 e1 => hG.2.2 e e0 e1⟩
        rw [a3]
        have b := hG.2.1 i i0 i1
        by_cases c : i = n
        · rw [c, gUp_e]; rw [c] at b; exact ⟨b.1, c2⟩
        · rw [gUp_n c]; exact b
      obtain ⟨d, rfl⟩ := gD (show 1 ≤ D by omega)
      refine gC 300 [] rfl ?_
      (conv => whnf); try simp only [gO, gWe, ne_eq, Nat.reduceEqDiff, not_false_eq_true, true_or, or_true, true_and]
      repeat' (first | exact True.intro | (refine ⟨fun hb => ?_, fun hb => ?_⟩ <;> first | (exfalso; omega; done) | exact absurd True.intro hb | ((conv => whnf); try simp only [gO, gWe, ne_eq, Nat.reduceEqDiff, not_false_eq_true, true_or, or_true, true_and])) | (refine ⟨by omega, ?_⟩; (conv => whnf); try simp only [gO, gWe, ne_eq, Nat.reduceEqDiff, not_false_eq_true, true_or, or_true, true_and]) | (refine ⟨fun hb => ?_, ?_⟩ <;> first | (exfalso; omega; done) | exact absurd True.intro hb | ((conv => whnf); try simp only [gO, gWe, ne_eq, Nat.reduceEqDiff, not_false_eq_true, true_or, or_true, true_and])) | fail)
      refine t_118 (by omega) (fun _ => ?_) (fun c => absurd c1 c)
      (conv => whnf); try simp only [gO, gWe, ne_eq, Nat.reduceEqDiff, not_false_eq_true, true_or, or_true, true_and]
      repeat' (first | exact True.intro | (refine ⟨fun hb => ?_, fun hb => ?_⟩ <;> first | (exfalso; omega; done) | exact absurd True.intro hb | ((conv => whnf); try simp only [gO, gWe, ne_eq, Nat.reduceEqDiff, not_false_eq_true, true_or, or_true, true_and])) | (refine ⟨by omega, ?_⟩; (conv => whnf); try simp only [gO, gWe, ne_eq, Nat.reduceEqDiff, not_false_eq_true, true_or, or_true, true_and]) | (refine ⟨fun hb => ?_, ?_⟩ <;> first | (exfalso; omega; done) | exact absurd True.intro hb | ((conv => whnf); try simp only [gO, gWe, ne_eq, Nat.reduceEqDiff, not_false_eq_true, true_or, or_true, true_and])) | fail)
      refine t_116 (by omega) hG1 (fun ν hν hL l0 => ?_)
      have fμ : gFr [0, 1, 2, 3, 4, 5, 6, 7, 8, 9, 10, 11, 12, 13, 14, 15, 16, 17, 18] μ ν := (f1.mo (by decide)).tr (hν.mo (by decide))
      have hG2 : iG ν := iG_f (hν 1 (by decide)) (hν 2 (by decide)) (hν 3 (by decide)) (hν 4 (by decide)) (hν 5 (by decide)) (hν 6 (by decide)) (hν 7 (by decide)) (hν 8 (by decide)) hG1
      have e62 : ν 62 = μ 62 := fμ 62 (by decide)
      have e61 : ν 61 = μ 61 := fμ 61 (by decide)
      have k0 : ν 1 = μ 1 := hν 1 (by decide)
      (conv => whnf); try simp only [gO, gWe, ne_eq, Nat.reduceEqDiff, not_false_eq_true, true_or, or_true, true_and]
      repeat' (first | exact True.intro | (refine ⟨fun hb => ?_, fun hb => ?_⟩ <;> first | (exfalso; omega; done) | exact absurd True.intro hb | ((conv => whnf); try simp only [gO, gWe, ne_eq, Nat.reduceEqDiff, not_false_eq_true, true_or, or_true, true_and])) | (refine ⟨by omega, ?_⟩; (conv => whnf); try simp only [gO, gWe, ne_eq, Nat.reduceEqDiff, not_false_eq_true, true_or, or_true, true_and]) | (refine ⟨fun hb => ?_, ?_⟩ <;> first | (exfalso; omega; done) | exact absurd True.intro hb | ((conv => whnf); try simp only [gO, gWe, ne_eq, Nat.reduceEqDiff, not_false_eq_true, true_or, or_true, true_and])) | fail)
      refine h _ ν ?_
      have mod : ∀ (D : Nat) (hD : 20 ≤ D) (Q : GQ), (∀ τ : MU, iAll τ → Q (some (gI (μ 3 n))) g_SH τ) → gCall g_T g_F D 136 [gR 61, gI n, gI g] g_SH ν Q := by
        intro D hD Q k
        have z0 : ν 62 0 = (μ 1 0) := by rw [e62]; exact M0.1
        have b17 : ν 62 (17 + n) = μ 3 n := by rw [e62]; exact (M.2.1 n c1.1 c1.2).2
        obtain ⟨d, rfl⟩ := gD (show 1 ≤ D by omega)
        refine gC 300 [] rfl ?_
        (conv => whnf); try simp only [gO, gWe, ne_eq, Nat.reduceEqDiff, not_false_eq_true, true_or, or_true, true_and]
        repeat' (first | exact True.intro | (refine ⟨fun hb => ?_, fun hb => ?_⟩ <;> first | (exfalso; omega; done) | exact absurd True.intro hb | ((conv => whnf); try simp only [gO, gWe, ne_eq, Nat.reduceEqDiff, not_false_eq_true, true_or, or_true, true_and])) | (refine ⟨by omega, ?_⟩; (conv => whnf); try simp only [gO, gWe, ne_eq, Nat.reduceEqDiff, not_false_eq_true, true_or, or_true, true_and]) | (refine ⟨fun hb => ?_, ?_⟩ <;> first | (exfalso; omega; done) | exact absurd True.intro hb | ((conv => whnf); try simp only [gO, gWe, ne_eq, Nat.reduceEqDiff, not_false_eq_true, true_or, or_true, true_and])) | fail)
        refine t_128r (by omega) (n := (μ 1 0)) z0 (by omega) (fun _ => ?_) (fun c => absurd c1 c)
        (conv => whnf); try simp only [gO, gWe, ne_eq, Nat.reduceEqDiff, not_false_eq_true, true_or, or_true, true_and]
        repeat' (first | exact True.intro | (refine ⟨fun hb => ?_, fun hb => ?_⟩ <;> first | (exfalso; omega; done) | exact absurd True.intro hb | ((conv => whnf); try simp only [gO, gWe, ne_eq, Nat.reduceEqDiff, not_false_eq_true, true_or, or_true, true_and])) | (refine ⟨by omega, ?_⟩; (conv => whnf); try simp only [gO, gWe, ne_eq, Nat.reduceEqDiff, not_false_eq_true, true_or, or_true, true_and]) | (refine ⟨fun hb => ?_, ?_⟩ <;> first | (exfalso; omega; done) | exact absurd True.intro hb | ((conv => whnf); try simp only [gO, gWe, ne_eq, Nat.reduceEqDiff, not_false_eq_true, true_or, or_true, true_and])) | fail)
        refine t_125 (by omega) (fun _ => ?_) (fun c => absurd c2 c)
        (conv => whnf); try simp only [gO, gWe, ne_eq, Nat.reduceEqDiff, not_false_eq_true, true_or, or_true, true_and]
        repeat' (first | exact True.intro | (refine ⟨fun hb => ?_, fun hb => ?_⟩ <;> first | (exfalso; omega; done) | exact absurd True.intro hb | ((conv => whnf); try simp only [gO, gWe, ne_eq, Nat.reduceEqDiff, not_false_eq_true, true_or, or_true, true_and])) | (refine ⟨by omega, ?_⟩; (conv => whnf); try simp only [gO, gWe, ne_eq, Nat.reduceEqDiff, not_false_eq_true, true_or, or_true, true_and]) | (refine ⟨fun hb => ?_, ?_⟩ <;> first | (exfalso; omega; done) | exact absurd True.intro hb | ((conv => whnf); try simp only [gO, gWe, ne_eq, Nat.reduceEqDiff, not_false_eq_true, true_or, or_true, true_and])) | fail)
        refine t_130 (by omega) ?_
        have hτ : gFr [61, 62] ν (gW (gW (gW ν 62 (17 + n) g) 62 2 0) 61 5 0) := ((gFr.rf.W (by decide)).W (by decide)).W (by decide)
        have T : ∀ k : Int, k ≠ 17 + n → k ≠ 2 → (gW (gW (gW ν 62 (17 + n) g) 62 2 0) 61 5 0) 62 k = μ 62 k := fun k k0 k2 => by
          show gW (gW ν 62 (17 + n) g) 62 2 0 62 k = _
          rw [gWn _ _ _ k2, gWn _ _ _ k0, e62]
        have T1 : (gW (gW (gW ν 62 (17 + n) g) 62 2 0) 61 5 0) 62 (17 + n) = g := by
          show gW (gW ν 62 (17 + n) g) 62 2 0 62 (17 + n) = _
          rw [gWn _ _ _ (by omega), gWe]
        have T2 : (gW (gW (gW ν 62 (17 + n) g) 62 2 0) 61 5 0) 62 2 = 0 := (congrFun (gO (show (62 : Nat) ≠ 61 by decide)) 2).trans (gWe _ _ _ _)
        have T5 : (gW (gW (gW ν 62 (17 + n) g) 62 2 0) 61 5 0) 61 5 = 0 := gWe _ _ _ _
        have T4 : (gW (gW (gW ν 62 (17 + n) g) 62 2 0) 61 5 0) 61 4 = μ 61 4 := by
          rw [gWn _ _ _ (by omega)]
          show ν 61 4 = μ 61 4
          rw [e61]
        generalize gW (gW (gW ν 62 (17 + n) g) 62 2 0) 61 5 0 = τ at *
        have fin : iAll τ := by
          refine fin_m hA fμ hG2 hL l0 hτ T4 T5 T2 (by rw [T 129 (by omega) (by omega)]; exact m9) (iGm_k (μ := μ) hτ ?_ (fun i i0 i1 => ?_) (fun e e0 e1 => ?_))
          · rw [T 0 (by omega) (by omega), T 1 (by omega) (by omega), k0]; exact M0
          · rw [k0] at i1
            rw [hν 2 (by decide), hν 3 (by decide), a3, T (5 + i) (by omega) (by omega)]
            have m := M.2.1 i i0 i1
            by_cases c : i = n
            · rw [c, gUp_e, T1]; rw [c] at m; exact ⟨m.1, rfl⟩
            · rw [gUp_n c, T (17 + i) (by omega) (by omega)]; exact m
          · rw [k0] at e1
            rw [hν 4 (by decide), hν 5 (by decide), hν 6 (by decide), hν 7 (by decide), hν 8 (by decide), T _ (by omega) (by omega), T _ (by omega) (by omega), T _ (by omega) (by omega), T _ (by omega) (by omega), T _ (by omega) (by omega)]
            exact M.2.2 e e0 e1
        have f := k τ fin
        rw [← b17] at f
        (conv => whnf); try simp only [gO, gWe, ne_eq, Nat.reduceEqDiff, not_false_eq_true, true_or, or_true, true_and]
        repeat' (first | exact True.intro | (refine ⟨fun hb => ?_, fun hb => ?_⟩ <;> first | (exfalso; omega; done) | exact absurd True.intro hb | ((conv => whnf); try simp only [gO, gWe, ne_eq, Nat.reduceEqDiff, not_false_eq_true, true_or, or_true, true_and])) | (refine ⟨by omega, ?_⟩; (conv => whnf); try simp only [gO, gWe, ne_eq, Nat.reduceEqDiff, not_false_eq_true, true_or, or_true, true_and]) | (refine ⟨fun hb => ?_, ?_⟩ <;> first | (exfalso; omega; done) | exact absurd True.intro hb | ((conv => whnf); try simp only [gO, gWe, ne_eq, Nat.reduceEqDiff, not_false_eq_true, true_or, or_true, true_and])) | fail)
        exact f
      exact mod _ (by omega) _ (fun τ hτ => h' _ _ τ rfl hτ)
    · have bad : ∀ (D : Nat) (hD : 20 ≤ D) (Q : GQ), Q (some (gI (-1))) g_SH μ → gCall g_T g_F D 136 [gR 61, gI n, gI g] g_SH μ Q := by
        intro D hD Q k
        obtain ⟨d, rfl⟩ := gD (show 1 ≤ D by omega)
        refine gC 300 [] rfl ?_
        (conv => whnf); try simp only [gO, gWe, ne_eq, Nat.reduceEqDiff, not_false_eq_true, true_or, or_true, true_and]
        repeat' (first | exact True.intro | (refine ⟨fun hb => ?_, fun hb => ?_⟩ <;> first | (exfalso; omega; done) | exact absurd True.intro hb | ((conv => whnf); try simp only [gO, gWe, ne_eq, Nat.reduceEqDiff, not_false_eq_true, true_or, or_true, true_and])) | (refine ⟨by omega, ?_⟩; (conv => whnf); try simp only [gO, gWe, ne_eq, Nat.reduceEqDiff, not_false_eq_true, true_or, or_true, true_and]) | (refine ⟨fun hb => ?_, ?_⟩ <;> first | (exfalso; omega; done) | exact absurd True.intro hb | ((conv => whnf); try simp only [gO, gWe, ne_eq, Nat.reduceEqDiff, not_false_eq_true, true_or, or_true, true_and])) | fail)
        refine t_128 (by omega) hG M (fun _ => ?_) (fun c => absurd c1 c)
        (conv => whnf); try simp only [gO, gWe, ne_eq, Nat.reduceEqDiff, not_false_eq_true, true_or, or_true, true_and]
        repeat' (first | exact True.intro | (refine ⟨fun hb => ?_, fun hb => ?_⟩ <;> first | (exfalso; omega; done) | exact absurd True.intro hb | ((conv => whnf); try simp only [gO, gWe, ne_eq, Nat.reduceEqDiff, not_false_eq_true, true_or, or_true, true_and])) | (refine ⟨by omega, ?_⟩; (conv => whnf); try simp only [gO, gWe, ne_eq, Nat.reduceEqDiff, not_false_eq_true, true_or, or_true, true_and]) | (refine ⟨fun hb => ?_, ?_⟩ <;> first | (exfalso; omega; done) | exact absurd True.intro hb | ((conv => whnf); try simp only [gO, gWe, ne_eq, Nat.reduceEqDiff, not_false_eq_true, true_or, or_true, true_and])) | fail)
        refine t_125 (by omega) (fun c => absurd c c2) (fun _ => ?_)
        (conv => whnf); try simp only [gO, gWe, ne_eq, Nat.reduceEqDiff, not_false_eq_true, true_or, or_true, true_and]
        repeat' (first | exact True.intro | (refine ⟨fun hb => ?_, fun hb => ?_⟩ <;> first | (exfalso; omega; done) | exact absurd True.intro hb | ((conv => whnf); try simp only [gO, gWe, ne_eq, Nat.reduceEqDiff, not_false_eq_true, true_or, or_true, true_and])) | (refine ⟨by omega, ?_⟩; (conv => whnf); try simp only [gO, gWe, ne_eq, Nat.reduceEqDiff, not_false_eq_true, true_or, or_true, true_and]) | (refine ⟨fun hb => ?_, ?_⟩ <;> first | (exfalso; omega; done) | exact absurd True.intro hb | ((conv => whnf); try simp only [gO, gWe, ne_eq, Nat.reduceEqDiff, not_false_eq_true, true_or, or_true, true_and])) | fail)
        exact k
      obtain ⟨d, rfl⟩ := gD (show 1 ≤ D by omega)
      refine gC 300 [] rfl ?_
      (conv => whnf); try simp only [gO, gWe, ne_eq, Nat.reduceEqDiff, not_false_eq_true, true_or, or_true, true_and]
      repeat' (first | exact True.intro | (refine ⟨fun hb => ?_, fun hb => ?_⟩ <;> first | (exfalso; omega; done) | exact absurd True.intro hb | ((conv => whnf); try simp only [gO, gWe, ne_eq, Nat.reduceEqDiff, not_false_eq_true, true_or, or_true, true_and])) | (refine ⟨by omega, ?_⟩; (conv => whnf); try simp only [gO, gWe, ne_eq, Nat.reduceEqDiff, not_false_eq_true, true_or, or_true, true_and]) | (refine ⟨fun hb => ?_, ?_⟩ <;> first | (exfalso; omega; done) | exact absurd True.intro hb | ((conv => whnf); try simp only [gO, gWe, ne_eq, Nat.reduceEqDiff, not_false_eq_true, true_or, or_true, true_and])) | fail)
      refine t_118 (by omega) (fun _ => ?_) (fun c => absurd c1 c)
      (conv => whnf); try simp only [gO, gWe, ne_eq, Nat.reduceEqDiff, not_false_eq_true, true_or, or_true, true_and]
      repeat' (first | exact True.intro | (refine ⟨fun hb => ?_, fun hb => ?_⟩ <;> first | (exfalso; omega; done) | exact absurd True.intro hb | ((conv => whnf); try simp only [gO, gWe, ne_eq, Nat.reduceEqDiff, not_false_eq_true, true_or, or_true, true_and])) | (refine ⟨by omega, ?_⟩; (conv => whnf); try simp only [gO, gWe, ne_eq, Nat.reduceEqDiff, not_false_eq_true, true_or, or_true, true_and]) | (refine ⟨fun hb => ?_, ?_⟩ <;> first | (exfalso; omega; done) | exact absurd True.intro hb | ((conv => whnf); try simp only [gO, gWe, ne_eq, Nat.reduceEqDiff, not_false_eq_true, true_or, or_true, true_and])) | fail)
      · exact h _ μ (bad _ (by omega) _ (h' _ _ μ rfl hA))
      · exact h _ μ (bad _ (by omega) _ (h' _ _ μ rfl hA))
  · obtain ⟨d, rfl⟩ := gD (show 1 ≤ D by omega)
    refine gC 300 [] rfl ?_
    (conv => whnf); try simp only [gO, gWe, ne_eq, Nat.reduceEqDiff, not_false_eq_true, true_or, or_true, true_and]
    repeat' (first | exact True.intro | (refine ⟨fun hb => ?_, fun hb => ?_⟩ <;> first | (exfalso; omega; done) | exact absurd True.intro hb | ((conv => whnf); try simp only [gO, gWe, ne_eq, Nat.reduceEqDiff, not_false_eq_true, true_or, or_true, true_and])) | (refine ⟨by omega, ?_⟩; (conv => whnf); try simp only [gO, gWe, ne_eq, Nat.reduceEqDiff, not_false_eq_true, true_or, or_true, true_and]) | (refine ⟨fun hb => ?_, ?_⟩ <;> first | (exfalso; omega; done) | exact absurd True.intro hb | ((conv => whnf); try simp only [gO, gWe, ne_eq, Nat.reduceEqDiff, not_false_eq_true, true_or, or_true, true_and])) | fail)
    refine t_118 (by omega) (fun c => absurd c c1) (fun _ => ?_)
    (conv => whnf); try simp only [gO, gWe, ne_eq, Nat.reduceEqDiff, not_false_eq_true, true_or, or_true, true_and]
    repeat' (first | exact True.intro | (refine ⟨fun hb => ?_, fun hb => ?_⟩ <;> first | (exfalso; omega; done) | exact absurd True.intro hb | ((conv => whnf); try simp only [gO, gWe, ne_eq, Nat.reduceEqDiff, not_false_eq_true, true_or, or_true, true_and])) | (refine ⟨by omega, ?_⟩; (conv => whnf); try simp only [gO, gWe, ne_eq, Nat.reduceEqDiff, not_false_eq_true, true_or, or_true, true_and]) | (refine ⟨fun hb => ?_, ?_⟩ <;> first | (exfalso; omega; done) | exact absurd True.intro hb | ((conv => whnf); try simp only [gO, gWe, ne_eq, Nat.reduceEqDiff, not_false_eq_true, true_or, or_true, true_and])) | fail)
    refine h _ μ ?_
    refine gC 300 [] rfl ?_
    (conv => whnf); try simp only [gO, gWe, ne_eq, Nat.reduceEqDiff, not_false_eq_true, true_or, or_true, true_and]
    repeat' (first | exact True.intro | (refine ⟨fun hb => ?_, fun hb => ?_⟩ <;> first | (exfalso; omega; done) | exact absurd True.intro hb | ((conv => whnf); try simp only [gO, gWe, ne_eq, Nat.reduceEqDiff, not_false_eq_true, true_or, or_true, true_and])) | (refine ⟨by omega, ?_⟩; (conv => whnf); try simp only [gO, gWe, ne_eq, Nat.reduceEqDiff, not_false_eq_true, true_or, or_true, true_and]) | (refine ⟨fun hb => ?_, ?_⟩ <;> first | (exfalso; omega; done) | exact absurd True.intro hb | ((conv => whnf); try simp only [gO, gWe, ne_eq, Nat.reduceEqDiff, not_false_eq_true, true_or, or_true, true_and])) | fail)
    refine t_128 (by omega) hG M (fun c => absurd c c1) (fun _ => ?_)
    (conv => whnf); try simp only [gO, gWe, ne_eq, Nat.reduceEqDiff, not_false_eq_true, true_or, or_true, true_and]
    repeat' (first | exact True.intro | (refine ⟨fun hb => ?_, fun hb => ?_⟩ <;> first | (exfalso; omega; done) | exact absurd True.intro hb | ((conv => whnf); try simp only [gO, gWe, ne_eq, Nat.reduceEqDiff, not_false_eq_true, true_or, or_true, true_and])) | (refine ⟨by omega, ?_⟩; (conv => whnf); try simp only [gO, gWe, ne_eq, Nat.reduceEqDiff, not_false_eq_true, true_or, or_true, true_and]) | (refine ⟨fun hb => ?_, ?_⟩ <;> first | (exfalso; omega; done) | exact absurd True.intro hb | ((conv => whnf); try simp only [gO, gWe, ne_eq, Nat.reduceEqDiff, not_false_eq_true, true_or, or_true, true_and])) | fail)
    exact h' _ _ μ rfl hA
