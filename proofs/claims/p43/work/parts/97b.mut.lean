variable {sN : Int} {sX : Int → Int}
/-! the graph is changed -/
theorem iA_0 {ν : MU} (hG : iG ν) (hL : iL ν) (l0 : (ν 0 6) = 0) : iA ν := ⟨hG, hL, Or.inl l0, fun l1 => by rw [l0] at l1; omega⟩
theorem p_76 {D : Nat} (hD : 36 ≤ D) {μ : MU} {Q : GQ} {w g : Int} (hA : iA μ) (c1 : 1 ≤ w ∧ w ≤ 9) (c2 : 0 ≤ g ∧ g ≤ 3) (c3 : (μ 1 0) < 12) (h : ∀ ν : MU, gFr [0, 1, 2, 3, 4, 5, 6, 7, 8, 9, 10, 11, 12, 13, 14, 15, 16, 17, 18] μ ν → iA ν → (ν 0 6) = 0 → (ν 1 0) = (μ 1 0) + 1 → (ν 1 1) = (μ 1 1) → (ν 2) = gUp (μ 2) (μ 1 0) w → (ν 3) = gUp (μ 3) (μ 1 0) g → Q (some (gI ((μ 1 0)))) g_SH ν) : gCall g_T g_F sN sX D 76 [gR 0, gI w, gI g] g_SH μ Q := by
  have hG := hA.1
  have G := hG.1
  have f1 : gFr [1, 2, 3] μ (gW (gW (gW μ 2 (μ 1 0) w) 3 (μ 1 0) g) 1 0 ((μ 1 0) + 1)) := ((gFr.rf.W (by decide)).W (by decide)).W (by decide)
  have a0 : gW (gW (gW μ 2 (μ 1 0) w) 3 (μ 1 0) g) 1 0 ((μ 1 0) + 1) 1 0 = (μ 1 0) + 1 := gWe _ _ _ _
  have a1 : gW (gW (gW μ 2 (μ 1 0) w) 3 (μ 1 0) g) 1 0 ((μ 1 0) + 1) 1 1 = (μ 1 1) := by rw [gWn _ _ _ (by omega)]; rfl
  have a2 : gW (gW (gW μ 2 (μ 1 0) w) 3 (μ 1 0) g) 1 0 ((μ 1 0) + 1) 2 = gUp (μ 2) (μ 1 0) w := by
    show gW μ 2 (μ 1 0) w 2 = _
    exact gW_up
  have a3 : gW (gW (gW μ 2 (μ 1 0) w) 3 (μ 1 0) g) 1 0 ((μ 1 0) + 1) 3 = gUp (μ 3) (μ 1 0) g := by
    show gW (gW μ 2 (μ 1 0) w) 3 (μ 1 0) g 3 = _
    rw [gW_up]
    rfl
  obtain ⟨d, rfl⟩ := gD (show 1 ≤ D by omega)
  refine gC 300 [] rfl ?_
  (conv => whnf); try simp only [gO, gWe, ne_eq, Nat.reduceEqDiff, not_false_eq_true, true_or, or_true, true_and]
  repeat' (first | exact True.intro | (refine ⟨fun hb => ?_, fun hb => ?_⟩ <;> first | (exfalso; omega; done) | exact absurd True.intro hb | ((conv => whnf); try simp only [gO, gWe, ne_eq, Nat.reduceEqDiff, not_false_eq_true, true_or, or_true, true_and])) | (refine ⟨by omega, ?_⟩; (conv => whnf); try simp only [gO, gWe, ne_eq, Nat.reduceEqDiff, not_false_eq_true, true_or, or_true, true_and]) | (refine ⟨fun hb => ?_, ?_⟩ <;> first | (exfalso; omega; done) | exact absurd True.intro hb | ((conv => whnf); try simp only [gO, gWe, ne_eq, Nat.reduceEqDiff, not_false_eq_true, true_or, or_true, true_and])) | fail)
  refine t_15 (by omega) (by omega) ?_
  (conv => whnf); try simp only [gO, gWe, ne_eq, Nat.reduceEqDiff, not_false_eq_true, true_or, or_true, true_and]
  repeat' (first | exact True.intro | (refine ⟨fun hb => ?_, fun hb => ?_⟩ <;> first | (exfalso; omega; done) | exact absurd True.intro hb | ((conv => whnf); try simp only [gO, gWe, ne_eq, Nat.reduceEqDiff, not_false_eq_true, true_or, or_true, true_and])) | (refine ⟨by omega, ?_⟩; (conv => whnf); try simp only [gO, gWe, ne_eq, Nat.reduceEqDiff, not_false_eq_true, true_or, or_true, true_and]) | (refine ⟨fun hb => ?_, ?_⟩ <;> first | (exfalso; omega; done) | exact absurd True.intro hb | ((conv => whnf); try simp only [gO, gWe, ne_eq, Nat.reduceEqDiff, not_false_eq_true, true_or, or_true, true_and])) | fail)
  generalize gW (gW (gW μ 2 (μ 1 0) w) 3 (μ 1 0) g) 1 0 ((μ 1 0) + 1) = μ₁ at *
  have hG1 : iG μ₁ := by
    refine ⟨by omega, fun i i0 i1 => ?_, fun e e0 e1 => ?_⟩
    · rw [a2, a3]
      by_cases c : i = (μ 1 0)
      · rw [c, gUp_e, gUp_e]; exact ⟨c1, c2⟩
      · rw [gUp_n c, gUp_n c]; exact hG.2.1 i i0 (by omega)
    · rw [f1 4 (by decide), f1 5 (by decide), f1 6 (by decide), f1 7 (by decide), f1 8 (by decide)]
      have := hG.2.2 e e0 (by omega)
      omega
  refine t_116 (by omega) hG1 (fun ν hν hL l0 => ?_)
  have fμ : gFr [0, 1, 2, 3, 4, 5, 6, 7, 8, 9, 10, 11, 12, 13, 14, 15, 16, 17, 18] μ ν := (f1.mo (by decide)).tr (hν.mo (by decide))
  have hG2 : iG ν := iG_f (hν 1 (by decide)) (hν 2 (by decide)) (hν 3 (by decide)) (hν 4 (by decide)) (hν 5 (by decide)) (hν 6 (by decide)) (hν 7 (by decide)) (hν 8 (by decide)) hG1
  have f := h ν fμ (iA_0 hG2 hL l0) l0 (by rw [hν 1 (by decide)]; exact a0) (by rw [hν 1 (by decide)]; exact a1) (by rw [hν 2 (by decide)]; exact a2) (by rw [hν 3 (by decide)]; exact a3)
  (conv => whnf); try simp only [gO, gWe, ne_eq, Nat.reduceEqDiff, not_false_eq_true, true_or, or_true, true_and]
  repeat' (first | exact True.intro | (refine ⟨fun hb => ?_, fun hb => ?_⟩ <;> first | (exfalso; omega; done) | exact absurd True.intro hb | ((conv => whnf); try simp only [gO, gWe, ne_eq, Nat.reduceEqDiff, not_false_eq_true, true_or, or_true, true_and])) | (refine ⟨by omega, ?_⟩; (conv => whnf); try simp only [gO, gWe, ne_eq, Nat.reduceEqDiff, not_false_eq_true, true_or, or_true, true_and]) | (refine ⟨fun hb => ?_, ?_⟩ <;> first | (exfalso; omega; done) | exact absurd True.intro hb | ((conv => whnf); try simp only [gO, gWe, ne_eq, Nat.reduceEqDiff, not_false_eq_true, true_or, or_true, true_and])) | fail)
  exact f
theorem p_76n {D : Nat} (hD : 36 ≤ D) {μ : MU} {Q : GQ} {w g : Int} (hb0 : ¬ ((1 ≤ w ∧ w ≤ 9) ∧ 0 ≤ g ∧ g ≤ 3)) (h : Q (some (gI (-1))) g_SH μ) : gCall g_T g_F sN sX D 76 [gR 0, gI w, gI g] g_SH μ Q := by
  obtain ⟨d, rfl⟩ := gD (show 1 ≤ D by omega)
  refine gC 300 [] rfl ?_
  (conv => whnf); try simp only [gO, gWe, ne_eq, Nat.reduceEqDiff, not_false_eq_true, true_or, or_true, true_and]
  repeat' (first | exact True.intro | (refine ⟨fun hb => ?_, fun hb => ?_⟩ <;> first | (exfalso; omega; done) | exact absurd True.intro hb | ((conv => whnf); try simp only [gO, gWe, ne_eq, Nat.reduceEqDiff, not_false_eq_true, true_or, or_true, true_and])) | (refine ⟨by omega, ?_⟩; (conv => whnf); try simp only [gO, gWe, ne_eq, Nat.reduceEqDiff, not_false_eq_true, true_or, or_true, true_and]) | (refine ⟨fun hb => ?_, ?_⟩ <;> first | (exfalso; omega; done) | exact absurd True.intro hb | ((conv => whnf); try simp only [gO, gWe, ne_eq, Nat.reduceEqDiff, not_false_eq_true, true_or, or_true, true_and])) | fail)
  all_goals first | exact h | (exfalso; omega)
theorem p_77 {D : Nat} (hD : 36 ≤ D) {μ : MU} {Q : GQ} {a b p q l : Int} (hA : iA μ) (c1 : 0 ≤ a ∧ a < (μ 1 0)) (c2 : 0 ≤ b ∧ b < (μ 1 0)) (c3 : a ≠ b) (c4 : 0 ≤ p ∧ p < 8) (c5 : 0 ≤ q ∧ q < 8) (c6 : 1 ≤ l ∧ l ≤ 3) (c7 : (μ 1 1) < 20) (h : ∀ ν : MU, gFr [0, 1, 4, 5, 6, 7, 8, 9, 10, 11, 12, 13, 14, 15, 16, 17, 18] μ ν → iA ν → (ν 0 6) = 0 → (ν 1 0) = (μ 1 0) → (ν 1 1) = (μ 1 1) + 1 → Q (some (gI ((μ 1 1)))) g_SH ν) : gCall g_T g_F sN sX D 77 [gR 0, gI a, gI b, gI p, gI q, gI l] g_SH μ Q := by
  have hG := hA.1
  have G := hG.1
  have f1 : gFr [1, 4, 5, 6, 7, 8] μ (gW (gW (gW (gW (gW (gW μ 4 (μ 1 1) a) 5 (μ 1 1) b) 6 (μ 1 1) p) 7 (μ 1 1) q) 8 (μ 1 1) l) 1 1 ((μ 1 1) + 1)) := (((((gFr.rf.W (by decide)).W (by decide)).W (by decide)).W (by decide)).W (by decide)).W (by decide)
  have a1 : gW (gW (gW (gW (gW (gW μ 4 (μ 1 1) a) 5 (μ 1 1) b) 6 (μ 1 1) p) 7 (μ 1 1) q) 8 (μ 1 1) l) 1 1 ((μ 1 1) + 1) 1 1 = (μ 1 1) + 1 := gWe _ _ _ _
  have a0 : gW (gW (gW (gW (gW (gW μ 4 (μ 1 1) a) 5 (μ 1 1) b) 6 (μ 1 1) p) 7 (μ 1 1) q) 8 (μ 1 1) l) 1 1 ((μ 1 1) + 1) 1 0 = (μ 1 0) := by rw [gWn _ _ _ (by omega)]; rfl
  have a4 : gW (gW (gW (gW (gW (gW μ 4 (μ 1 1) a) 5 (μ 1 1) b) 6 (μ 1 1) p) 7 (μ 1 1) q) 8 (μ 1 1) l) 1 1 ((μ 1 1) + 1) 4 = gUp (μ 4) (μ 1 1) a := (gW_up : gW μ 4 (μ 1 1) a 4 = _)
  have a5 : gW (gW (gW (gW (gW (gW μ 4 (μ 1 1) a) 5 (μ 1 1) b) 6 (μ 1 1) p) 7 (μ 1 1) q) 8 (μ 1 1) l) 1 1 ((μ 1 1) + 1) 5 = gUp (μ 5) (μ 1 1) b := (gW_up : gW (gW μ 4 (μ 1 1) a) 5 (μ 1 1) b 5 = _)
  have a6 : gW (gW (gW (gW (gW (gW μ 4 (μ 1 1) a) 5 (μ 1 1) b) 6 (μ 1 1) p) 7 (μ 1 1) q) 8 (μ 1 1) l) 1 1 ((μ 1 1) + 1) 6 = gUp (μ 6) (μ 1 1) p := (gW_up : gW (gW (gW μ 4 (μ 1 1) a) 5 (μ 1 1) b) 6 (μ 1 1) p 6 = _)
  have a7 : gW (gW (gW (gW (gW (gW μ 4 (μ 1 1) a) 5 (μ 1 1) b) 6 (μ 1 1) p) 7 (μ 1 1) q) 8 (μ 1 1) l) 1 1 ((μ 1 1) + 1) 7 = gUp (μ 7) (μ 1 1) q := (gW_up : gW (gW (gW (gW μ 4 (μ 1 1) a) 5 (μ 1 1) b) 6 (μ 1 1) p) 7 (μ 1 1) q 7 = _)
  have a8 : gW (gW (gW (gW (gW (gW μ 4 (μ 1 1) a) 5 (μ 1 1) b) 6 (μ 1 1) p) 7 (μ 1 1) q) 8 (μ 1 1) l) 1 1 ((μ 1 1) + 1) 8 = gUp (μ 8) (μ 1 1) l := (gW_up : gW (gW (gW (gW (gW μ 4 (μ 1 1) a) 5 (μ 1 1) b) 6 (μ 1 1) p) 7 (μ 1 1) q) 8 (μ 1 1) l 8 = _)
  obtain ⟨d, rfl⟩ := gD (show 1 ≤ D by omega)
  refine gC 300 [] rfl ?_
  (conv => whnf); try simp only [gO, gWe, ne_eq, Nat.reduceEqDiff, not_false_eq_true, true_or, or_true, true_and]
  repeat' (first | exact True.intro | (refine ⟨fun hb => ?_, fun hb => ?_⟩ <;> first | (exfalso; omega; done) | exact absurd True.intro hb | ((conv => whnf); try simp only [gO, gWe, ne_eq, Nat.reduceEqDiff, not_false_eq_true, true_or, or_true, true_and])) | (refine ⟨by omega, ?_⟩; (conv => whnf); try simp only [gO, gWe, ne_eq, Nat.reduceEqDiff, not_false_eq_true, true_or, or_true, true_and]) | (refine ⟨fun hb => ?_, ?_⟩ <;> first | (exfalso; omega; done) | exact absurd True.intro hb | ((conv => whnf); try simp only [gO, gWe, ne_eq, Nat.reduceEqDiff, not_false_eq_true, true_or, or_true, true_and])) | fail)
  refine t_118 (by omega) (fun _ => ?_) (fun c => absurd c1 c)
  (conv => whnf); try simp only [gO, gWe, ne_eq, Nat.reduceEqDiff, not_false_eq_true, true_or, or_true, true_and]
  repeat' (first | exact True.intro | (refine ⟨fun hb => ?_, fun hb => ?_⟩ <;> first | (exfalso; omega; done) | exact absurd True.intro hb | ((conv => whnf); try simp only [gO, gWe, ne_eq, Nat.reduceEqDiff, not_false_eq_true, true_or, or_true, true_and])) | (refine ⟨by omega, ?_⟩; (conv => whnf); try simp only [gO, gWe, ne_eq, Nat.reduceEqDiff, not_false_eq_true, true_or, or_true, true_and]) | (refine ⟨fun hb => ?_, ?_⟩ <;> first | (exfalso; omega; done) | exact absurd True.intro hb | ((conv => whnf); try simp only [gO, gWe, ne_eq, Nat.reduceEqDiff, not_false_eq_true, true_or, or_true, true_and])) | fail)
  refine t_118 (by omega) (fun _ => ?_) (fun c => absurd c2 c)
  (conv => whnf); try simp only [gO, gWe, ne_eq, Nat.reduceEqDiff, not_false_eq_true, true_or, or_true, true_and]
  repeat' (first | exact True.intro | (refine ⟨fun hb => ?_, fun hb => ?_⟩ <;> first | (exfalso; omega; done) | exact absurd True.intro hb | ((conv => whnf); try simp only [gO, gWe, ne_eq, Nat.reduceEqDiff, not_false_eq_true, true_or, or_true, true_and])) | (refine ⟨by omega, ?_⟩; (conv => whnf); try simp only [gO, gWe, ne_eq, Nat.reduceEqDiff, not_false_eq_true, true_or, or_true, true_and]) | (refine ⟨fun hb => ?_, ?_⟩ <;> first | (exfalso; omega; done) | exact absurd True.intro hb | ((conv => whnf); try simp only [gO, gWe, ne_eq, Nat.reduceEqDiff, not_false_eq_true, true_or, or_true, true_and])) | fail)
  refine t_121 (by omega) (fun _ => ?_) (fun c => absurd c4 c)
  (conv => whnf); try simp only [gO, gWe, ne_eq, Nat.reduceEqDiff, not_false_eq_true, true_or, or_true, true_and]
  repeat' (first | exact True.intro | (refine ⟨fun hb => ?_, fun hb => ?_⟩ <;> first | (exfalso; omega; done) | exact absurd True.intro hb | ((conv => whnf); try simp only [gO, gWe, ne_eq, Nat.reduceEqDiff, not_false_eq_true, true_or, or_true, true_and])) | (refine ⟨by omega, ?_⟩; (conv => whnf); try simp only [gO, gWe, ne_eq, Nat.reduceEqDiff, not_false_eq_true, true_or, or_true, true_and]) | (refine ⟨fun hb => ?_, ?_⟩ <;> first | (exfalso; omega; done) | exact absurd True.intro hb | ((conv => whnf); try simp only [gO, gWe, ne_eq, Nat.reduceEqDiff, not_false_eq_true, true_or, or_true, true_and])) | fail)
  refine t_121 (by omega) (fun _ => ?_) (fun c => absurd c5 c)
  (conv => whnf); try simp only [gO, gWe, ne_eq, Nat.reduceEqDiff, not_false_eq_true, true_or, or_true, true_and]
  repeat' (first | exact True.intro | (refine ⟨fun hb => ?_, fun hb => ?_⟩ <;> first | (exfalso; omega; done) | exact absurd True.intro hb | ((conv => whnf); try simp only [gO, gWe, ne_eq, Nat.reduceEqDiff, not_false_eq_true, true_or, or_true, true_and])) | (refine ⟨by omega, ?_⟩; (conv => whnf); try simp only [gO, gWe, ne_eq, Nat.reduceEqDiff, not_false_eq_true, true_or, or_true, true_and]) | (refine ⟨fun hb => ?_, ?_⟩ <;> first | (exfalso; omega; done) | exact absurd True.intro hb | ((conv => whnf); try simp only [gO, gWe, ne_eq, Nat.reduceEqDiff, not_false_eq_true, true_or, or_true, true_and])) | fail)
  refine t_16 (by omega) (by omega) ?_
  (conv => whnf); try simp only [gO, gWe, ne_eq, Nat.reduceEqDiff, not_false_eq_true, true_or, or_true, true_and]
  repeat' (first | exact True.intro | (refine ⟨fun hb => ?_, fun hb => ?_⟩ <;> first | (exfalso; omega; done) | exact absurd True.intro hb | ((conv => whnf); try simp only [gO, gWe, ne_eq, Nat.reduceEqDiff, not_false_eq_true, true_or, or_true, true_and])) | (refine ⟨by omega, ?_⟩; (conv => whnf); try simp only [gO, gWe, ne_eq, Nat.reduceEqDiff, not_false_eq_true, true_or, or_true, true_and]) | (refine ⟨fun hb => ?_, ?_⟩ <;> first | (exfalso; omega; done) | exact absurd True.intro hb | ((conv => whnf); try simp only [gO, gWe, ne_eq, Nat.reduceEqDiff, not_false_eq_true, true_or, or_true, true_and])) | fail)
  generalize gW (gW (gW (gW (gW (gW μ 4 (μ 1 1) a) 5 (μ 1 1) b) 6 (μ 1 1) p) 7 (μ 1 1) q) 8 (μ 1 1) l) 1 1 ((μ 1 1) + 1) = μ₁ at *
  have hG1 : iG μ₁ := by
    refine ⟨by omega, fun i i0 i1 => ?_, fun e e0 e1 => ?_⟩
    · rw [f1 2 (by decide), f1 3 (by decide)]; exact hG.2.1 i i0 (by omega)
    · rw [a0, a4, a5, a6, a7, a8]
      by_cases c : e = (μ 1 1)
      · rw [c, gUp_e, gUp_e, gUp_e, gUp_e, gUp_e]; omega
      · rw [gUp_n c, gUp_n c, gUp_n c, gUp_n c, gUp_n c]; exact hG.2.2 e e0 (by omega)
  refine t_116 (by omega) hG1 (fun ν hν hL l0 => ?_)
  have fμ : gFr [0, 1, 4, 5, 6, 7, 8, 9, 10, 11, 12, 13, 14, 15, 16, 17, 18] μ ν := (f1.mo (by decide)).tr (hν.mo (by decide))
  have hG2 : iG ν := iG_f (hν 1 (by decide)) (hν 2 (by decide)) (hν 3 (by decide)) (hν 4 (by decide)) (hν 5 (by decide)) (hν 6 (by decide)) (hν 7 (by decide)) (hν 8 (by decide)) hG1
  have f := h ν fμ (iA_0 hG2 hL l0) l0 (by rw [hν 1 (by decide)]; exact a0) (by rw [hν 1 (by decide)]; exact a1)
  (conv => whnf); try simp only [gO, gWe, ne_eq, Nat.reduceEqDiff, not_false_eq_true, true_or, or_true, true_and]
  repeat' (first | exact True.intro | (refine ⟨fun hb => ?_, fun hb => ?_⟩ <;> first | (exfalso; omega; done) | exact absurd True.intro hb | ((conv => whnf); try simp only [gO, gWe, ne_eq, Nat.reduceEqDiff, not_false_eq_true, true_or, or_true, true_and])) | (refine ⟨by omega, ?_⟩; (conv => whnf); try simp only [gO, gWe, ne_eq, Nat.reduceEqDiff, not_false_eq_true, true_or, or_true, true_and]) | (refine ⟨fun hb => ?_, ?_⟩ <;> first | (exfalso; omega; done) | exact absurd True.intro hb | ((conv => whnf); try simp only [gO, gWe, ne_eq, Nat.reduceEqDiff, not_false_eq_true, true_or, or_true, true_and])) | fail)
  exact f
theorem p_77n {D : Nat} (hD : 36 ≤ D) {μ : MU} {Q : GQ} {a b p q l : Int} (hG : iG μ) (hb0 : ¬ ((0 ≤ a ∧ a < (μ 1 0)) ∧ (0 ≤ b ∧ b < (μ 1 0)) ∧ a ≠ b ∧ (0 ≤ p ∧ p < 8) ∧ (0 ≤ q ∧ q < 8) ∧ 1 ≤ l ∧ l ≤ 3)) (h : Q (some (gI (-1))) g_SH μ) : gCall g_T g_F sN sX D 77 [gR 0, gI a, gI b, gI p, gI q, gI l] g_SH μ Q := by
  have G := hG.1
  obtain ⟨d, rfl⟩ := gD (show 1 ≤ D by omega)
  refine gC 300 [] rfl ?_
  (conv => whnf); try simp only [gO, gWe, ne_eq, Nat.reduceEqDiff, not_false_eq_true, true_or, or_true, true_and]
  repeat' (first | exact True.intro | (refine ⟨fun hb => ?_, fun hb => ?_⟩ <;> first | (exfalso; omega; done) | exact absurd True.intro hb | ((conv => whnf); try simp only [gO, gWe, ne_eq, Nat.reduceEqDiff, not_false_eq_true, true_or, or_true, true_and])) | (refine ⟨by omega, ?_⟩; (conv => whnf); try simp only [gO, gWe, ne_eq, Nat.reduceEqDiff, not_false_eq_true, true_or, or_true, true_and]) | (refine ⟨fun hb => ?_, ?_⟩ <;> first | (exfalso; omega; done) | exact absurd True.intro hb | ((conv => whnf); try simp only [gO, gWe, ne_eq, Nat.reduceEqDiff, not_false_eq_true, true_or, or_true, true_and])) | fail)
  refine t_118 (by omega) (fun c1 => ?_) (fun c1 => ?_)
  · (conv => whnf); try simp only [gO, gWe, ne_eq, Nat.reduceEqDiff, not_false_eq_true, true_or, or_true, true_and]
    repeat' (first | exact True.intro | (refine ⟨fun hb => ?_, fun hb => ?_⟩ <;> first | (exfalso; omega; done) | exact absurd True.intro hb | ((conv => whnf); try simp only [gO, gWe, ne_eq, Nat.reduceEqDiff, not_false_eq_true, true_or, or_true, true_and])) | (refine ⟨by omega, ?_⟩; (conv => whnf); try simp only [gO, gWe, ne_eq, Nat.reduceEqDiff, not_false_eq_true, true_or, or_true, true_and]) | (refine ⟨fun hb => ?_, ?_⟩ <;> first | (exfalso; omega; done) | exact absurd True.intro hb | ((conv => whnf); try simp only [gO, gWe, ne_eq, Nat.reduceEqDiff, not_false_eq_true, true_or, or_true, true_and])) | fail)
    refine t_118 (by omega) (fun c2 => ?_) (fun c2 => ?_)
    · (conv => whnf); try simp only [gO, gWe, ne_eq, Nat.reduceEqDiff, not_false_eq_true, true_or, or_true, true_and]
      repeat' (first | exact True.intro | (refine ⟨fun hb => ?_, fun hb => ?_⟩ <;> first | (exfalso; omega; done) | exact absurd True.intro hb | ((conv => whnf); try simp only [gO, gWe, ne_eq, Nat.reduceEqDiff, not_false_eq_true, true_or, or_true, true_and])) | (refine ⟨by omega, ?_⟩; (conv => whnf); try simp only [gO, gWe, ne_eq, Nat.reduceEqDiff, not_false_eq_true, true_or, or_true, true_and]) | (refine ⟨fun hb => ?_, ?_⟩ <;> first | (exfalso; omega; done) | exact absurd True.intro hb | ((conv => whnf); try simp only [gO, gWe, ne_eq, Nat.reduceEqDiff, not_false_eq_true, true_or, or_true, true_and])) | fail)
      all_goals first | exact h | skip
      refine t_121 (by omega) (fun c4 => ?_) (fun c4 => ?_)
      · (conv => whnf); try simp only [gO, gWe, ne_eq, Nat.reduceEqDiff, not_false_eq_true, true_or, or_true, true_and]
        repeat' (first | exact True.intro | (refine ⟨fun hb => ?_, fun hb => ?_⟩ <;> first | (exfalso; omega; done) | exact absurd True.intro hb | ((conv => whnf); try simp only [gO, gWe, ne_eq, Nat.reduceEqDiff, not_false_eq_true, true_or, or_true, true_and])) | (refine ⟨by omega, ?_⟩; (conv => whnf); try simp only [gO, gWe, ne_eq, Nat.reduceEqDiff, not_false_eq_true, true_or, or_true, true_and]) | (refine ⟨fun hb => ?_, ?_⟩ <;> first | (exfalso; omega; done) | exact absurd True.intro hb | ((conv => whnf); try simp only [gO, gWe, ne_eq, Nat.reduceEqDiff, not_false_eq_true, true_or, or_true, true_and])) | fail)
        refine t_121 (by omega) (fun c5 => ?_) (fun c5 => ?_)
        · (conv => whnf); try simp only [gO, gWe, ne_eq, Nat.reduceEqDiff, not_false_eq_true, true_or, or_true, true_and]
          repeat' (first | exact True.intro | (refine ⟨fun hb => ?_, fun hb => ?_⟩ <;> first | (exfalso; omega; done) | exact absurd True.intro hb | ((conv => whnf); try simp only [gO, gWe, ne_eq, Nat.reduceEqDiff, not_false_eq_true, true_or, or_true, true_and])) | (refine ⟨by omega, ?_⟩; (conv => whnf); try simp only [gO, gWe, ne_eq, Nat.reduceEqDiff, not_false_eq_true, true_or, or_true, true_and]) | (refine ⟨fun hb => ?_, ?_⟩ <;> first | (exfalso; omega; done) | exact absurd True.intro hb | ((conv => whnf); try simp only [gO, gWe, ne_eq, Nat.reduceEqDiff, not_false_eq_true, true_or, or_true, true_and])) | fail)
          all_goals first | exact h | (exfalso; omega)
        · (conv => whnf); try simp only [gO, gWe, ne_eq, Nat.reduceEqDiff, not_false_eq_true, true_or, or_true, true_and]
          repeat' (first | exact True.intro | (refine ⟨fun hb => ?_, fun hb => ?_⟩ <;> first | (exfalso; omega; done) | exact absurd True.intro hb | ((conv => whnf); try simp only [gO, gWe, ne_eq, Nat.reduceEqDiff, not_false_eq_true, true_or, or_true, true_and])) | (refine ⟨by omega, ?_⟩; (conv => whnf); try simp only [gO, gWe, ne_eq, Nat.reduceEqDiff, not_false_eq_true, true_or, or_true, true_and]) | (refine ⟨fun hb => ?_, ?_⟩ <;> first | (exfalso; omega; done) | exact absurd True.intro hb | ((conv => whnf); try simp only [gO, gWe, ne_eq, Nat.reduceEqDiff, not_false_eq_true, true_or, or_true, true_and])) | fail)
          exact h
      · (conv => whnf); try simp only [gO, gWe, ne_eq, Nat.reduceEqDiff, not_false_eq_true, true_or, or_true, true_and]
        repeat' (first | exact True.intro | (refine ⟨fun hb => ?_, fun hb => ?_⟩ <;> first | (exfalso; omega; done) | exact absurd True.intro hb | ((conv => whnf); try simp only [gO, gWe, ne_eq, Nat.reduceEqDiff, not_false_eq_true, true_or, or_true, true_and])) | (refine ⟨by omega, ?_⟩; (conv => whnf); try simp only [gO, gWe, ne_eq, Nat.reduceEqDiff, not_false_eq_true, true_or, or_true, true_and]) | (refine ⟨fun hb => ?_, ?_⟩ <;> first | (exfalso; omega; done) | exact absurd True.intro hb | ((conv => whnf); try simp only [gO, gWe, ne_eq, Nat.reduceEqDiff, not_false_eq_true, true_or, or_true, true_and])) | fail)
        exact h
    · (conv => whnf); try simp only [gO, gWe, ne_eq, Nat.reduceEqDiff, not_false_eq_true, true_or, or_true, true_and]
      repeat' (first | exact True.intro | (refine ⟨fun hb => ?_, fun hb => ?_⟩ <;> first | (exfalso; omega; done) | exact absurd True.intro hb | ((conv => whnf); try simp only [gO, gWe, ne_eq, Nat.reduceEqDiff, not_false_eq_true, true_or, or_true, true_and])) | (refine ⟨by omega, ?_⟩; (conv => whnf); try simp only [gO, gWe, ne_eq, Nat.reduceEqDiff, not_false_eq_true, true_or, or_true, true_and]) | (refine ⟨fun hb => ?_, ?_⟩ <;> first | (exfalso; omega; done) | exact absurd True.intro hb | ((conv => whnf); try simp only [gO, gWe, ne_eq, Nat.reduceEqDiff, not_false_eq_true, true_or, or_true, true_and])) | fail)
      exact h
  · (conv => whnf); try simp only [gO, gWe, ne_eq, Nat.reduceEqDiff, not_false_eq_true, true_or, or_true, true_and]
    repeat' (first | exact True.intro | (refine ⟨fun hb => ?_, fun hb => ?_⟩ <;> first | (exfalso; omega; done) | exact absurd True.intro hb | ((conv => whnf); try simp only [gO, gWe, ne_eq, Nat.reduceEqDiff, not_false_eq_true, true_or, or_true, true_and])) | (refine ⟨by omega, ?_⟩; (conv => whnf); try simp only [gO, gWe, ne_eq, Nat.reduceEqDiff, not_false_eq_true, true_or, or_true, true_and]) | (refine ⟨fun hb => ?_, ?_⟩ <;> first | (exfalso; omega; done) | exact absurd True.intro hb | ((conv => whnf); try simp only [gO, gWe, ne_eq, Nat.reduceEqDiff, not_false_eq_true, true_or, or_true, true_and])) | fail)
    exact h
theorem p_78n {D : Nat} (hD : 36 ≤ D) {μ : MU} {Q : GQ} (h0 : (μ 1 1) = 0) (h : Q (some (gI (-3))) g_SH μ) : gCall g_T g_F sN sX D 78 [gR 0] g_SH μ Q := by
  obtain ⟨d, rfl⟩ := gD (show 1 ≤ D by omega)
  refine gC 300 [] rfl ?_
  (conv => whnf); try simp only [gO, gWe, ne_eq, Nat.reduceEqDiff, not_false_eq_true, true_or, or_true, true_and]
  repeat' (first | exact True.intro | (refine ⟨fun hb => ?_, fun hb => ?_⟩ <;> first | (exfalso; omega; done) | exact absurd True.intro hb | ((conv => whnf); try simp only [gO, gWe, ne_eq, Nat.reduceEqDiff, not_false_eq_true, true_or, or_true, true_and])) | (refine ⟨by omega, ?_⟩; (conv => whnf); try simp only [gO, gWe, ne_eq, Nat.reduceEqDiff, not_false_eq_true, true_or, or_true, true_and]) | (refine ⟨fun hb => ?_, ?_⟩ <;> first | (exfalso; omega; done) | exact absurd True.intro hb | ((conv => whnf); try simp only [gO, gWe, ne_eq, Nat.reduceEqDiff, not_false_eq_true, true_or, or_true, true_and])) | fail)
  all_goals first | exact h | (exfalso; omega)
theorem p_79 {D : Nat} (hD : 36 ≤ D) {μ : MU} {Q : GQ} {n g : Int} (hA : iA μ) (c1 : 0 ≤ n ∧ n < (μ 1 0)) (c2 : 0 ≤ g ∧ g ≤ 3) (h : ∀ ν : MU, gFr [0, 1, 2, 3, 4, 5, 6, 7, 8, 9, 10, 11, 12, 13, 14, 15, 16, 17, 18] μ ν → iA ν → (ν 0 6) = 0 → Q (some (gI ((μ 3) n))) g_SH ν) : gCall g_T g_F sN sX D 79 [gR 0, gI n, gI g] g_SH μ Q := by
  have hG := hA.1
  have G := hG.1
  have f1 : gFr [3] μ (gW μ 3 n g) := gFr.rf.W (by decide)
  have a3 : gW μ 3 n g 3 = gUp (μ 3) n g := gW_up
  have hG1 : iG (gW μ 3 n g) := by
    refine ⟨hG.1, fun i i0 i1 => ?_, fun e e0 e1 => hG.2.2 e e0 e1⟩
    rw [a3]
    have b := hG.2.1 i i0 i1
    by_cases c : i = n
    · rw [c, gUp_e]; rw [c] at b; exact ⟨b.1, c2⟩
    · rw [gUp_n c]; exact b
  obtain ⟨d, rfl⟩ := gD (show 1 ≤ D by omega)
  refine gC 300 [] rfl ?_
  (conv => whnf); try simp only [gO, gWe, ne_eq, Nat.reduceEqDiff, not_false_eq_true, true_or, or_true, true_and]
  repeat' (first | exact True.intro | (refine ⟨fun hb => ?_, fun hb => ?_⟩ <;> first | (exfalso; omega; done) | exact absurd True.intro hb | ((conv => whnf); try simp only [gO, gWe, ne_eq, Nat.reduceEqDiff, not_false_eq_true, true_or, or_true, true_and])) | (refine ⟨by omega, ?_⟩; (conv => whnf); try simp only [gO, gWe, ne_eq, Nat.reduceEqDiff, not_false_eq_true, true_or, or_true, true_and]) | (refine ⟨fun hb => ?_, ?_⟩ <;> first | (exfalso; omega; done) | exact absurd True.intro hb | ((conv => whnf); try simp only [gO, gWe, ne_eq, Nat.reduceEqDiff, not_false_eq_true, true_or, or_true, true_and])) | fail)
  refine t_118 (by omega) (fun _ => ?_) (fun c => absurd c1 c)
  (conv => whnf); try simp only [gO, gWe, ne_eq, Nat.reduceEqDiff, not_false_eq_true, true_or, or_true, true_and]
  repeat' (first | exact True.intro | (refine ⟨fun hb => ?_, fun hb => ?_⟩ <;> first | (exfalso; omega; done) | exact absurd True.intro hb | ((conv => whnf); try simp only [gO, gWe, ne_eq, Nat.reduceEqDiff, not_false_eq_true, true_or, or_true, true_and])) | (refine ⟨by omega, ?_⟩; (conv => whnf); try simp only [gO, gWe, ne_eq, Nat.reduceEqDiff, not_false_eq_true, true_or, or_true, true_and]) | (refine ⟨fun hb => ?_, ?_⟩ <;> first | (exfalso; omega; done) | exact absurd True.intro hb | ((conv => whnf); try simp only [gO, gWe, ne_eq, Nat.reduceEqDiff, not_false_eq_true, true_or, or_true, true_and])) | fail)
  refine t_116 (by omega) hG1 (fun ν hν hL l0 => ?_)
  have fμ : gFr [0, 1, 2, 3, 4, 5, 6, 7, 8, 9, 10, 11, 12, 13, 14, 15, 16, 17, 18] μ ν := (f1.mo (by decide)).tr (hν.mo (by decide))
  have hG2 : iG ν := iG_f (hν 1 (by decide)) (hν 2 (by decide)) (hν 3 (by decide)) (hν 4 (by decide)) (hν 5 (by decide)) (hν 6 (by decide)) (hν 7 (by decide)) (hν 8 (by decide)) hG1
  have f := h ν fμ (iA_0 hG2 hL l0) l0
  (conv => whnf); try simp only [gO, gWe, ne_eq, Nat.reduceEqDiff, not_false_eq_true, true_or, or_true, true_and]
  repeat' (first | exact True.intro | (refine ⟨fun hb => ?_, fun hb => ?_⟩ <;> first | (exfalso; omega; done) | exact absurd True.intro hb | ((conv => whnf); try simp only [gO, gWe, ne_eq, Nat.reduceEqDiff, not_false_eq_true, true_or, or_true, true_and])) | (refine ⟨by omega, ?_⟩; (conv => whnf); try simp only [gO, gWe, ne_eq, Nat.reduceEqDiff, not_false_eq_true, true_or, or_true, true_and]) | (refine ⟨fun hb => ?_, ?_⟩ <;> first | (exfalso; omega; done) | exact absurd True.intro hb | ((conv => whnf); try simp only [gO, gWe, ne_eq, Nat.reduceEqDiff, not_false_eq_true, true_or, or_true, true_and])) | fail)
  exact f
theorem p_79n {D : Nat} (hD : 36 ≤ D) {μ : MU} {Q : GQ} {n g : Int} (c1 : ¬ (0 ≤ n ∧ n < (μ 1 0))) (h : Q (some (gI (-1))) g_SH μ) : gCall g_T g_F sN sX D 79 [gR 0, gI n, gI g] g_SH μ Q := by
  obtain ⟨d, rfl⟩ := gD (show 1 ≤ D by omega)
  refine gC 300 [] rfl ?_
  (conv => whnf); try simp only [gO, gWe, ne_eq, Nat.reduceEqDiff, not_false_eq_true, true_or, or_true, true_and]
  repeat' (first | exact True.intro | (refine ⟨fun hb => ?_, fun hb => ?_⟩ <;> first | (exfalso; omega; done) | exact absurd True.intro hb | ((conv => whnf); try simp only [gO, gWe, ne_eq, Nat.reduceEqDiff, not_false_eq_true, true_or, or_true, true_and])) | (refine ⟨by omega, ?_⟩; (conv => whnf); try simp only [gO, gWe, ne_eq, Nat.reduceEqDiff, not_false_eq_true, true_or, or_true, true_and]) | (refine ⟨fun hb => ?_, ?_⟩ <;> first | (exfalso; omega; done) | exact absurd True.intro hb | ((conv => whnf); try simp only [gO, gWe, ne_eq, Nat.reduceEqDiff, not_false_eq_true, true_or, or_true, true_and])) | fail)
  refine t_118 (by omega) (fun c => absurd c c1) (fun _ => ?_)
  (conv => whnf); try simp only [gO, gWe, ne_eq, Nat.reduceEqDiff, not_false_eq_true, true_or, or_true, true_and]
  repeat' (first | exact True.intro | (refine ⟨fun hb => ?_, fun hb => ?_⟩ <;> first | (exfalso; omega; done) | exact absurd True.intro hb | ((conv => whnf); try simp only [gO, gWe, ne_eq, Nat.reduceEqDiff, not_false_eq_true, true_or, or_true, true_and])) | (refine ⟨by omega, ?_⟩; (conv => whnf); try simp only [gO, gWe, ne_eq, Nat.reduceEqDiff, not_false_eq_true, true_or, or_true, true_and]) | (refine ⟨fun hb => ?_, ?_⟩ <;> first | (exfalso; omega; done) | exact absurd True.intro hb | ((conv => whnf); try simp only [gO, gWe, ne_eq, Nat.reduceEqDiff, not_false_eq_true, true_or, or_true, true_and])) | fail)
  exact h
/-! not laid out -/
theorem p_94n {D : Nat} (hD : 30 ≤ D) {μ : MU} {Q : GQ} (l0 : (μ 0 6) = 0) (h : Q (some (gI (-3))) g_SH μ) : gCall g_T g_F sN sX D 94 [gR 0] g_SH μ Q := by
  obtain ⟨d, rfl⟩ := gD (show 1 ≤ D by omega)
  refine gC 300 [] rfl ?_
  (conv => whnf); try simp only [gO, gWe, ne_eq, Nat.reduceEqDiff, not_false_eq_true, true_or, or_true, true_and]
  repeat' (first | exact True.intro | (refine ⟨fun hb => ?_, fun hb => ?_⟩ <;> first | (exfalso; omega; done) | exact absurd True.intro hb | ((conv => whnf); try simp only [gO, gWe, ne_eq, Nat.reduceEqDiff, not_false_eq_true, true_or, or_true, true_and])) | (refine ⟨by omega, ?_⟩; (conv => whnf); try simp only [gO, gWe, ne_eq, Nat.reduceEqDiff, not_false_eq_true, true_or, or_true, true_and]) | (refine ⟨fun hb => ?_, ?_⟩ <;> first | (exfalso; omega; done) | exact absurd True.intro hb | ((conv => whnf); try simp only [gO, gWe, ne_eq, Nat.reduceEqDiff, not_false_eq_true, true_or, or_true, true_and])) | fail)
  exact h
