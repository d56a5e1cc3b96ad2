variable {sN : Int} {sX : Int → Int}
/-! closed groups, as the class and as the model ask for them -/
theorem xGr_b {μ : MU} (hG : iG μ) {v : Int} (h0 : 0 ≤ v) : 0 ≤ xGr μ v ∧ xGr μ v ≤ 3 := by
  unfold xGr
  by_cases hc : v < (μ 1 0)
  · rw [if_pos hc]; exact (hG.2.1 v h0 hc).2
  · rw [if_neg hc]; omega
theorem t_53 {D : Nat} (hD : 2 ≤ D) {μ : MU} {Q : GQ} {y : Int} (hH0 : iH μ) (y0 : 0 ≤ y) (y1 : y < (μ 9 1)) (k1 : iC μ (μ 24) y → Q (some (gI (1))) g_SH μ) (k0 : ¬ iC μ (μ 24) y → Q (some (gI (0))) g_SH μ) : gCall g_T g_F sN sX D 53 [gR 19, gI y] g_SH μ Q := by
  have G := hH0.1.1
  have L := hH0.2.1.2.2.2.1
  have V := hH0.2.2.1.1
  have st := (iN_st hH0.1 hH0.2.1 hH0.2.2.1).1 y y0 y1
  obtain ⟨d, rfl⟩ := gD (show 1 ≤ D by omega)
  refine gC 300 [12] rfl ?_
  (conv => whnf); try simp only [gO, gWe, ne_eq, Nat.reduceEqDiff, not_false_eq_true, true_or, or_true, true_and]
  repeat' (first | exact True.intro | (refine ⟨fun hb => ?_, fun hb => ?_⟩ <;> first | (exfalso; omega; done) | exact absurd True.intro hb | ((conv => whnf); try simp only [gO, gWe, ne_eq, Nat.reduceEqDiff, not_false_eq_true, true_or, or_true, true_and])) | (refine ⟨by omega, ?_⟩; (conv => whnf); try simp only [gO, gWe, ne_eq, Nat.reduceEqDiff, not_false_eq_true, true_or, or_true, true_and]) | (refine ⟨fun hb => ?_, ?_⟩ <;> first | (exfalso; omega; done) | exact absurd True.intro hb | ((conv => whnf); try simp only [gO, gWe, ne_eq, Nat.reduceEqDiff, not_false_eq_true, true_or, or_true, true_and])) | fail)
  have key : ∀ i : Int, (μ 23) y ≤ i → i ≤ (μ 23) (y + 1) → ∀ (b q : Int) (x : GV), (0 ≤ b ∧ b < 16) → (∀ g : Int, 1 ≤ g → g ≤ 3 → (gHas b g ↔ ∃ j : Int, (μ 23) y ≤ j ∧ j < i ∧ xGr μ ((μ 24) j) = g)) → (i = (μ 23) y → q = 0) → ((μ 23) y < i → q = xGr μ ((μ 24) (i - 1))) → (∀ a j k : Int, (μ 23) y ≤ a → a < j → j < k → k < i → xGr μ ((μ 24) a) ≠ 0 → xGr μ ((μ 24) a) = xGr μ ((μ 24) k) → xGr μ ((μ 24) j) = xGr μ ((μ 24) a)) → gG g_T g_F (gCall g_T g_F sN sX d) sN sX (g_T 53) Q 12 [gR 19, gI y, gI b, gI q, gI i, x] [] g_SH μ 0 0 := by
    refine g_up (fun i i0 i1 ih b q x hb1 hb2 hq0 hq1 hc => ?_) (fun b q x hb1 hb2 hq0 hq1 hc => ?_)
    · have sq := (hH0.2.2.2.1 y y0 y1 i i0 i1).1
      have gb := xGr_b hH0.1 sq.1
      -- closed so far, also with this one
      have more : (xGr μ ((μ 24) i) ≠ 0 → xGr μ ((μ 24) i) = q ∨ ¬ gHas b (xGr μ ((μ 24) i))) → ∀ a j k : Int, (μ 23) y ≤ a → a < j → j < k → k < i + 1 → xGr μ ((μ 24) a) ≠ 0 → xGr μ ((μ 24) a) = xGr μ ((μ 24) k) → xGr μ ((μ 24) j) = xGr μ ((μ 24) a) := by
        intro hm a j k a0 a1 a2 a3 a4 a5
        by_cases hk : k = i
        · subst hk
          rcases hm (by omega) with m | m
          · have qq := hq1 (by omega)
            by_cases hj : j = k - 1
            · subst hj; omega
            · exact hc a j (k - 1) a0 a1 (by omega) (by omega) a4 (by omega)
          · exact absurd ((hb2 _ (by omega) (by omega)).mpr ⟨a, a0, by omega, a5⟩) m
        · exact hc a j k a0 a1 a2 (by omega) a4 a5
      have next : ∀ (b' : Int) (x' : GV), (0 ≤ b' ∧ b' < 16) → (∀ g : Int, 1 ≤ g → g ≤ 3 → (gHas b' g ↔ gHas b g ∨ g = xGr μ ((μ 24) i))) → (xGr μ ((μ 24) i) ≠ 0 → xGr μ ((μ 24) i) = q ∨ ¬ gHas b (xGr μ ((μ 24) i))) → gG g_T g_F (gCall g_T g_F sN sX d) sN sX (g_T 53) Q 12 [gR 19, gI y, gI b', gI (xGr μ ((μ 24) i)), gI (i + 1), x'] [] g_SH μ 0 0 := by
        intro b' x' hb' hg' hm
        refine ih b' _ x' hb' (fun g g0 g1 => ?_) (fun h => by omega) (fun _ => by rw [show i + 1 - 1 = i by omega]) (more hm)
        rw [hg' g g0 g1, hb2 g g0 g1]
        constructor
        · rintro (⟨j, j0, j1, j2⟩ | h)
          · exact ⟨j, j0, by omega, j2⟩
          · exact ⟨i, i0, by omega, h.symm⟩
        · rintro ⟨j, j0, j1, j2⟩
          by_cases hj : j = i
          · subst hj; exact Or.inr j2.symm
          · exact Or.inl ⟨j, j0, by omega, j2⟩
      refine gB_gG [12] 300 ?_
      (conv => whnf); try simp only [gO, gWe, ne_eq, Nat.reduceEqDiff, not_false_eq_true, true_or, or_true, true_and]
      repeat' (first | exact True.intro | (refine ⟨fun hb => ?_, fun hb => ?_⟩ <;> first | (exfalso; omega; done) | exact absurd True.intro hb | ((conv => whnf); try simp only [gO, gWe, ne_eq, Nat.reduceEqDiff, not_false_eq_true, true_or, or_true, true_and])) | (refine ⟨by omega, ?_⟩; (conv => whnf); try simp only [gO, gWe, ne_eq, Nat.reduceEqDiff, not_false_eq_true, true_or, or_true, true_and]) | (refine ⟨fun hb => ?_, ?_⟩ <;> first | (exfalso; omega; done) | exact absurd True.intro hb | ((conv => whnf); try simp only [gO, gWe, ne_eq, Nat.reduceEqDiff, not_false_eq_true, true_or, or_true, true_and])) | fail)
      refine t_41 (by omega) hH0.1 sq.1 ?_
      (conv => whnf); try simp only [gO, gWe, ne_eq, Nat.reduceEqDiff, not_false_eq_true, true_or, or_true, true_and]
      repeat' (first | exact True.intro | (refine ⟨fun hb => ?_, fun hb => ?_⟩ <;> first | (exfalso; omega; done) | exact absurd True.intro hb | ((conv => whnf); try simp only [gO, gWe, ne_eq, Nat.reduceEqDiff, not_false_eq_true, true_or, or_true, true_and])) | (refine ⟨by omega, ?_⟩; (conv => whnf); try simp only [gO, gWe, ne_eq, Nat.reduceEqDiff, not_false_eq_true, true_or, or_true, true_and]) | (refine ⟨fun hb => ?_, ?_⟩ <;> first | (exfalso; omega; done) | exact absurd True.intro hb | ((conv => whnf); try simp only [gO, gWe, ne_eq, Nat.reduceEqDiff, not_false_eq_true, true_or, or_true, true_and])) | fail)
      · exact next b _ hb1 (fun g g0 g1 => ⟨Or.inl, fun h => h.elim id (fun h => by omega)⟩) (fun h => absurd (by omega) h)
      · refine next b _ hb1 (fun g g0 g1 => ⟨Or.inl, fun h => h.elim id (fun h => ?_)⟩) (fun h => Or.inl (by omega))
        have i1' : (μ 23) y < i := by
          by_cases hc : i = (μ 23) y
          · have := hq0 hc; omega
          · omega
        have := hq1 i1'
        exact (hb2 g g0 g1).mpr ⟨i - 1, by omega, by omega, by omega⟩
      · have bt := g_bit hb1 (g := xGr μ ((μ 24) i)) (by omega)
        refine next _ _ bt.2.2.1 (fun g g0 g1 => bt.2.2.2 g g0 g1) (fun h => Or.inr (fun hh => ?_))
        have := bt.2.1.mpr hh
        omega
      · have bt := g_bit hb1 (g := xGr μ ((μ 24) i)) (by omega)
        have b1 := bt.2.1.mp (by omega)
        obtain ⟨j, j0, j1, j2⟩ := (hb2 _ (by omega) (by omega)).mp b1
        refine k0 (fun hcl => ?_)
        have qq := hq1 (by omega)
        by_cases hj : j = i - 1
        · subst hj; omega
        · have := hcl j (i - 1) i j0 (by omega) (by omega) i1 (by omega) j2
          omega
    · refine gB_gG [12] 300 ?_
      (conv => whnf); try simp only [gO, gWe, ne_eq, Nat.reduceEqDiff, not_false_eq_true, true_or, or_true, true_and]
      repeat' (first | exact True.intro | (refine ⟨fun hb => ?_, fun hb => ?_⟩ <;> first | (exfalso; omega; done) | exact absurd True.intro hb | ((conv => whnf); try simp only [gO, gWe, ne_eq, Nat.reduceEqDiff, not_false_eq_true, true_or, or_true, true_and])) | (refine ⟨by omega, ?_⟩; (conv => whnf); try simp only [gO, gWe, ne_eq, Nat.reduceEqDiff, not_false_eq_true, true_or, or_true, true_and]) | (refine ⟨fun hb => ?_, ?_⟩ <;> first | (exfalso; omega; done) | exact absurd True.intro hb | ((conv => whnf); try simp only [gO, gWe, ne_eq, Nat.reduceEqDiff, not_false_eq_true, true_or, or_true, true_and])) | fail)
      exact k1 hc
  exact key ((μ 23) y) (by omega) (by omega) 0 0 (gN 2) (by omega) (fun g g0 g1 => ⟨fun h => by unfold gHas at h; omega, fun ⟨j, j0, j1, _⟩ => by omega⟩) (fun _ => rfl) (fun h => by omega) (fun a j k a0 a1 a2 a3 => by omega)
theorem iC_i {μ : MU} {sq : Int → Int} {y : Int} : iC μ sq y ↔ ∀ k i : Int, (μ 23) y ≤ i → i < k - 1 → k < (μ 23) (y + 1) → 0 ≠ xGr μ (sq k) → xGr μ (sq i) = xGr μ (sq k) → xGr μ (sq (i + 1)) = xGr μ (sq k) := by
  constructor
  · intro h k i i0 i1 k1 g0 g1
    rw [h i (i + 1) k i0 (by omega) (by omega) k1 (by omega) g1, g1]
  · intro h i j k i0 i1 i2 i3 g0 g1
    have key := g_dn (P := fun j => xGr μ (sq j) = xGr μ (sq i)) (lo := i) (hi := k - 1) (fun a a0 a1 ih => by
      have := h k (a - 1) (by omega) (by omega) i3 (by omega) (by omega)
      rw [show a - 1 + 1 = a by omega] at this
      omega) rfl
    exact key j (by omega) (by omega)
