/-! the model finds the border of a group -/
def hBd (ν ρ : MU) (g : Int) (n : Nat) : Prop := ρ 79 0 = hMn (ν 34) (ν 3) g n ∧ ρ 79 1 = hMg2 (xRt ν) (ν 3) g n ∧ ρ 79 2 = hMn (ν 13) (ν 3) g n ∧ ρ 79 3 = hMg2 (ν 13) (ν 3) g n
theorem t_208 {D : Nat} (hD : 4 ≤ D) {ν : MU} {Q : GQ} {g : Int} (hW : iW ν) (hM : iM ν) (k1 : (∃ i : Int, 0 ≤ i ∧ i < (ν 1 0) ∧ (ν 3) i = g) → ∀ ρ : MU, gFr [79] ν ρ → hBd ν ρ g (ν 1 0).toNat → Q (some (gI (1))) g_SH ρ) (k0 : (¬ ∃ i : Int, 0 ≤ i ∧ i < (ν 1 0) ∧ (ν 3) i = g) → ∀ ρ : MU, gFr [79] ν ρ → Q (some (gI (0))) g_SH ρ) : gCall g_T g_F D 208 [gR 61, gI g] g_SH ν Q := by
  obtain ⟨hN, hO, hC, hX⟩ := hW.1.2.2.2 hW.2.2
  have hG := hW.1.1
  have hL := hW.1.2.1
  have G := hG.1
  have V := hN.1
  have M0 := hW.2.1.1.1
  obtain ⟨d, rfl⟩ := gD (show 1 ≤ D by omega)
  refine gC 300 [4] rfl ?_
  (conv => whnf); try simp only [gO, gWe, ne_eq, Nat.reduceEqDiff, not_false_eq_true, true_or, or_true, true_and]
  have key : ∀ i : Int, 0 ≤ i → i ≤ (ν 1 0) → ∀ (ρ : MU) (is : Int) (x y : GV), gFr [79] ν ρ → ((is = 0 ∧ (∀ j : Int, 0 ≤ j → j < i → (ν 3) j ≠ g) ∧ hMn (ν 34) (ν 3) g i.toNat = 1073741824 ∧ hMg2 (xRt ν) (ν 3) g i.toNat = 0 ∧ hMn (ν 13) (ν 3) g i.toNat = 1073741824 ∧ hMg2 (ν 13) (ν 3) g i.toNat = 0) ∨ (is = 1 ∧ (∃ j : Int, 0 ≤ j ∧ j < i ∧ (ν 3) j = g) ∧ hBd ν ρ g i.toNat)) → gG g_T g_F (gCall g_T g_F d) 0 (fun _ => 0) (g_T 208) Q 4 [gR 61, gI g, gI is, gI i, x, y] [] g_SH ρ 0 0 := by
    refine g_up (fun i i0 i1 ih ρ is x y hρ hI => ?_) (fun ρ is x y hρ hI => ?_)
    · have e62 : ρ 62 = ν 62 := hρ 62 (by decide)
      have z0 : ρ 62 0 = (ν 1 0) := by rw [e62]; exact M0.1
      have gg := (hW.2.1.1.2.1 i i0 i1)
      have z17 : ρ 62 (17 + i) = (ν 3) i := by rw [e62]; exact gg.2
      have z5 : ρ 62 (5 + i) = (ν 2) i := by rw [e62]; exact gg.1
      have hb := (hG.2.1 i i0 i1).1
      have hlv := hX i i0 (by omega)
      have hly := hL.2.2.1 i i0 i1
      have lc := hL.2.2.2.1
      have zl : ρ 67 i = (ν 13) i := by rw [hρ 67 (by decide)]; exact hM.2.2.2.1 i i0 i1
      have nm := (hN.2.2.2.1 i i0 i1).1
      have wd : xRt ν i = (ν 34) i + (ν 2) i := by unfold xRt xWd; rw [if_pos i1]
      have sρ : hSt ν ρ := hρ.st (by decide)
      have f34 : (ρ 34) = (ν 34) := hρ 34 (by decide)
      have hWρ : iW ρ := ⟨iA_c sρ (by rw [hρ 0 (by decide)]) (hρ 24 (by decide)) (hρ 25 (by decide)) f34 hW.1, iB_c sρ (by rw [hρ 0 (by decide)]) (hρ 24 (by decide)) f34 e62 hW.2.1, by rw [hρ 0 (by decide)]; exact hW.2.2⟩
      have l199 : ∀ (Q' : GQ) , Q' (some (gI ((ν 34) i))) g_SH ρ → gCall g_T g_F d 199 [gR 61, gI i] g_SH ρ Q' := fun Q' hq => by
        have f20 : (ρ 20) i = i := by rw [sρ 20 (by decide) (by decide)]; exact nm
        have t := t_199 (D := d) (by omega) (Q := Q') (v := i) hWρ i0 (by rw [sρ 19 (by decide) (by decide)]; omega) (by rw [f34]; exact hq)
        rw [f20] at t
        exact t
      rw [show (i + 1).toNat = i.toNat + 1 by omega] at ih
      have m0 : hMn (ν 34) (ν 3) g (i.toNat + 1) = if (ν 3) i = g then min (hMn (ν 34) (ν 3) g i.toNat) ((ν 34) i) else hMn (ν 34) (ν 3) g i.toNat := by
        show (if (ν 3) ((i.toNat : Nat) : Int) = g then _ else _) = _
        rw [show ((i.toNat : Nat) : Int) = i by omega]
      have m1 : hMg2 (xRt ν) (ν 3) g (i.toNat + 1) = if (ν 3) i = g then max (hMg2 (xRt ν) (ν 3) g i.toNat) (xRt ν i) else hMg2 (xRt ν) (ν 3) g i.toNat := by
        show (if (ν 3) ((i.toNat : Nat) : Int) = g then _ else _) = _
        rw [show ((i.toNat : Nat) : Int) = i by omega]
      have m2 : hMn (ν 13) (ν 3) g (i.toNat + 1) = if (ν 3) i = g then min (hMn (ν 13) (ν 3) g i.toNat) ((ν 13) i) else hMn (ν 13) (ν 3) g i.toNat := by
        show (if (ν 3) ((i.toNat : Nat) : Int) = g then _ else _) = _
        rw [show ((i.toNat : Nat) : Int) = i by omega]
      have m3 : hMg2 (ν 13) (ν 3) g (i.toNat + 1) = if (ν 3) i = g then max (hMg2 (ν 13) (ν 3) g i.toNat) ((ν 13) i) else hMg2 (ν 13) (ν 3) g i.toNat := by
        show (if (ν 3) ((i.toNat : Nat) : Int) = g then _ else _) = _
        rw [show ((i.toNat : Nat) : Int) = i by omega]
      unfold hBd at ih hI
      by_cases c : (ν 3) i = g
      · rw [if_pos c] at m0 m1 m2 m3
        have nx : ∀ (a b e f x y : Int), a = min (hMn (ν 34) (ν 3) g i.toNat) ((ν 34) i) → b = max (hMg2 (xRt ν) (ν 3) g i.toNat) (xRt ν i) → e = min (hMn (ν 13) (ν 3) g i.toNat) ((ν 13) i) → f = max (hMg2 (ν 13) (ν 3) g i.toNat) ((ν 13) i) → gG g_T g_F (gCall g_T g_F d) 0 (fun _ => 0) (g_T 208) Q 4 [gR 61, gI g, gI 1, gI (i + 1), gI x, gI y] [] g_SH (gW (gW (gW (gW ρ 79 0 a) 79 1 b) 79 2 e) 79 3 f) 0 0 := fun a b e f x y ha hb he hf => ih _ _ _ _ ((((hρ.W (by decide)).W (by decide)).W (by decide)).W (by decide)) (Or.inr ⟨rfl, ⟨i, i0, by omega, c⟩, by
          rw [gWn _ _ _ (show (0 : Int) ≠ 3 by decide), gWn _ _ _ (show (0 : Int) ≠ 2 by decide), gWn _ _ _ (show (0 : Int) ≠ 1 by decide), gWe, m0]; exact ha, by
          rw [gWn _ _ _ (show (1 : Int) ≠ 3 by decide), gWn _ _ _ (show (1 : Int) ≠ 2 by decide), gWe, m1]; exact hb, by
          rw [gWn _ _ _ (show (2 : Int) ≠ 3 by decide), gWe, m2]; exact he, by
          rw [gWe, m3]; exact hf⟩)
        clear ih m0 m1 m2 m3 k1 k0 hWρ
        rcases hI with ⟨s0, -, s1, s2, s3, s4⟩ | ⟨s0, -, s1, s2, s3, s4⟩
        · rw [s1, s2, s3, s4] at nx
          rw [s0]
          rw [wd] at nx
          clear s1 s2 s3 s4
          refine gB_gG [4] 300 ?_
          (conv => whnf); try simp only [gO, gWe, ne_eq, Nat.reduceEqDiff, not_false_eq_true, true_or, or_true, true_and]
          repeat' (first | exact True.intro | (refine ⟨fun hb => ?_, fun hb => ?_⟩ <;> first | (exfalso; omega; done) | exact absurd True.intro hb | ((conv => whnf); try simp only [gO, gWe, ne_eq, Nat.reduceEqDiff, not_false_eq_true, true_or, or_true, true_and]; try simp only [gS10, gS20, gS21, gS30, gS31, gS32])) | (refine ⟨by omega, ?_⟩; (conv => whnf); try simp only [gO, gWe, ne_eq, Nat.reduceEqDiff, not_false_eq_true, true_or, or_true, true_and]; try simp only [gS10, gS20, gS21, gS30, gS31, gS32]) | (refine ⟨fun hb => ?_, ?_⟩ <;> first | (exfalso; omega; done) | exact absurd True.intro hb | ((conv => whnf); try simp only [gO, gWe, ne_eq, Nat.reduceEqDiff, not_false_eq_true, true_or, or_true, true_and]; try simp only [gS10, gS20, gS21, gS30, gS31, gS32])) | fail)
          refine l199 _ ?_
          (conv => whnf); try simp only [gO, gWe, ne_eq, Nat.reduceEqDiff, not_false_eq_true, true_or, or_true, true_and]; try simp only [gS10, gS20, gS21, gS30, gS31, gS32]
          repeat' (first | exact True.intro | (refine ⟨fun hb => ?_, fun hb => ?_⟩ <;> first | (exfalso; omega; done) | exact absurd True.intro hb | ((conv => whnf); try simp only [gO, gWe, ne_eq, Nat.reduceEqDiff, not_false_eq_true, true_or, or_true, true_and]; try simp only [gS10, gS20, gS21, gS30, gS31, gS32])) | (refine ⟨by omega, ?_⟩; (conv => whnf); try simp only [gO, gWe, ne_eq, Nat.reduceEqDiff, not_false_eq_true, true_or, or_true, true_and]; try simp only [gS10, gS20, gS21, gS30, gS31, gS32]) | (refine ⟨fun hb => ?_, ?_⟩ <;> first | (exfalso; omega; done) | exact absurd True.intro hb | ((conv => whnf); try simp only [gO, gWe, ne_eq, Nat.reduceEqDiff, not_false_eq_true, true_or, or_true, true_and]; try simp only [gS10, gS20, gS21, gS30, gS31, gS32])) | fail)
          exact nx _ _ _ _ _ _ (by omega) (by omega) (by omega) (by omega)
        · rw [← s1, ← s2, ← s3, ← s4] at nx
          rw [s0]
          rw [wd] at nx
          clear s1 s2 s3 s4
          refine gB_gG [4] 300 ?_
          (conv => whnf); try simp only [gO, gWe, ne_eq, Nat.reduceEqDiff, not_false_eq_true, true_or, or_true, true_and]
          repeat' (first | exact True.intro | (refine ⟨fun hb => ?_, fun hb => ?_⟩ <;> first | (exfalso; omega; done) | exact absurd True.intro hb | ((conv => whnf); try simp only [gO, gWe, ne_eq, Nat.reduceEqDiff, not_false_eq_true, true_or, or_true, true_and]; try simp only [gS10, gS20, gS21, gS30, gS31, gS32])) | (refine ⟨by omega, ?_⟩; (conv => whnf); try simp only [gO, gWe, ne_eq, Nat.reduceEqDiff, not_false_eq_true, true_or, or_true, true_and]; try simp only [gS10, gS20, gS21, gS30, gS31, gS32]) | (refine ⟨fun hb => ?_, ?_⟩ <;> first | (exfalso; omega; done) | exact absurd True.intro hb | ((conv => whnf); try simp only [gO, gWe, ne_eq, Nat.reduceEqDiff, not_false_eq_true, true_or, or_true, true_and]; try simp only [gS10, gS20, gS21, gS30, gS31, gS32])) | fail)
          refine l199 _ ?_
          (conv => whnf); try simp only [gO, gWe, ne_eq, Nat.reduceEqDiff, not_false_eq_true, true_or, or_true, true_and]; try simp only [gS10, gS20, gS21, gS30, gS31, gS32]
          repeat' (first | exact True.intro | (refine ⟨fun hb => ?_, fun hb => ?_⟩ <;> first | (exfalso; omega; done) | exact absurd True.intro hb | ((conv => whnf); try simp only [gO, gWe, ne_eq, Nat.reduceEqDiff, not_false_eq_true, true_or, or_true, true_and]; try simp only [gS10, gS20, gS21, gS30, gS31, gS32])) | (refine ⟨by omega, ?_⟩; (conv => whnf); try simp only [gO, gWe, ne_eq, Nat.reduceEqDiff, not_false_eq_true, true_or, or_true, true_and]; try simp only [gS10, gS20, gS21, gS30, gS31, gS32]) | (refine ⟨fun hb => ?_, ?_⟩ <;> first | (exfalso; omega; done) | exact absurd True.intro hb | ((conv => whnf); try simp only [gO, gWe, ne_eq, Nat.reduceEqDiff, not_false_eq_true, true_or, or_true, true_and]; try simp only [gS10, gS20, gS21, gS30, gS31, gS32])) | fail)
          all_goals exact nx _ _ _ _ _ _ (by omega) (by omega) (by omega) (by omega)
      · rw [if_neg c] at m0 m1 m2 m3
        rw [m0, m1, m2, m3] at ih
        have i2 := ih ρ is x y hρ (by
          rcases hI with ⟨s0, s1, s2⟩ | ⟨s0, ⟨j, j0, j1, j2⟩, s2⟩
          · exact Or.inl ⟨s0, fun j j0 j1 => by
              by_cases dd : j = i
              · rw [dd]; exact c
              · exact s1 j j0 (by omega), s2⟩
          · exact Or.inr ⟨s0, ⟨j, j0, by omega, j2⟩, s2⟩)
        clear ih hI k1 k0 m0 m1 m2 m3 hWρ l199
        refine gB_gG [4] 300 ?_
        (conv => whnf); try simp only [gO, gWe, ne_eq, Nat.reduceEqDiff, not_false_eq_true, true_or, or_true, true_and]
        repeat' (first | exact True.intro | (refine ⟨fun hb => ?_, fun hb => ?_⟩ <;> first | (exfalso; omega; done) | exact absurd True.intro hb | ((conv => whnf); try simp only [gO, gWe, ne_eq, Nat.reduceEqDiff, not_false_eq_true, true_or, or_true, true_and])) | (refine ⟨by omega, ?_⟩; (conv => whnf); try simp only [gO, gWe, ne_eq, Nat.reduceEqDiff, not_false_eq_true, true_or, or_true, true_and]) | (refine ⟨fun hb => ?_, ?_⟩ <;> first | (exfalso; omega; done) | exact absurd True.intro hb | ((conv => whnf); try simp only [gO, gWe, ne_eq, Nat.reduceEqDiff, not_false_eq_true, true_or, or_true, true_and])) | fail)
        exact i2
    · have e62 : ρ 62 = ν 62 := hρ 62 (by decide)
      have z0 : ρ 62 0 = (ν 1 0) := by rw [e62]; exact M0.1
      have f : Q (some (gI (is))) g_SH ρ := by
        rcases hI with ⟨s0, s1, s2⟩ | ⟨s0, ⟨j, j0, j1, j2⟩, s2⟩
        · rw [s0]; exact k0 (fun ⟨j, j0, j1, j2⟩ => s1 j j0 j1 j2) ρ hρ
        · rw [s0]; exact k1 ⟨j, j0, j1, j2⟩ ρ hρ s2
      have is01 : is = 0 ∨ is = 1 := hI.elim (fun h => Or.inl h.1) (fun h => Or.inr h.1)
      clear hI k1 k0
      refine gB_gG [4] 300 ?_
      (conv => whnf); try simp only [gO, gWe, ne_eq, Nat.reduceEqDiff, not_false_eq_true, true_or, or_true, true_and]
      repeat' (first | exact True.intro | (refine ⟨fun hb => ?_, fun hb => ?_⟩ <;> first | (exfalso; omega; done) | exact absurd True.intro hb | ((conv => whnf); try simp only [gO, gWe, ne_eq, Nat.reduceEqDiff, not_false_eq_true, true_or, or_true, true_and])) | (refine ⟨by omega, ?_⟩; (conv => whnf); try simp only [gO, gWe, ne_eq, Nat.reduceEqDiff, not_false_eq_true, true_or, or_true, true_and]) | (refine ⟨fun hb => ?_, ?_⟩ <;> first | (exfalso; omega; done) | exact absurd True.intro hb | ((conv => whnf); try simp only [gO, gWe, ne_eq, Nat.reduceEqDiff, not_false_eq_true, true_or, or_true, true_and])) | fail)
      exact f
  exact key 0 (by omega) (by omega) ν 0 _ _ gFr.rf (Or.inl ⟨rfl, fun j _ _ => by omega, rfl, rfl, rfl, rfl⟩)
theorem c_106 {D : Nat} (hD : 30 ≤ D) {μ : MU} (hA : iAll μ) {g s : Int} : hCs D 106 209 [gI g, gI s] μ := by
  intro Q Q' h h'
  by_cases l1 : (μ 0 6) = 1
  · skip
    have hG := hA.1.1
    have hL := hA.1.2.1
    obtain ⟨hN, hO, hC, hX⟩ := hA.1.2.2.2 l1
    obtain ⟨hS, hq, hx⟩ := hA.2.1.2.2 l1
    have ml := hA.2.1.2.1
    have G := hG.1
    have L := hL.2.2.2.1
    have V := hN.1
    have M := hA.2.1.1.1
    by_cases cg : 1 ≤ g ∧ g ≤ 3
    · by_cases cs : 0 ≤ s ∧ s ≤ 3
      · have mod : ∀ (D : Nat) (hD : 20 ≤ D) (Q : GQ), ((∃ i : Int, 0 ≤ i ∧ i < (μ 1 0) ∧ (μ 3) i = g) → ∀ (ρ : MU), iAll ρ → hBd μ ρ g (μ 1 0).toNat → Q (some (gI (ρ 79 s))) g_SH ρ) → ((¬ ∃ i : Int, 0 ≤ i ∧ i < (μ 1 0) ∧ (μ 3) i = g) → ∀ ρ : MU, iAll ρ → Q (some (gI (-4))) g_SH ρ) → gCall g_T g_F D 209 [gR 61, gI g, gI s] g_SH μ Q := by
          intro D hD Q k1 k0
          obtain ⟨d, rfl⟩ := gD (show 1 ≤ D by omega)
          refine gC 300 [] rfl ?_
          (conv => whnf); try simp only [gO, gWe, ne_eq, Nat.reduceEqDiff, not_false_eq_true, true_or, or_true, true_and]
          repeat' (first | exact True.intro | (refine ⟨fun hb => ?_, fun hb => ?_⟩ <;> first | (exfalso; omega; done) | exact absurd True.intro hb | ((conv => whnf); try simp only [gO, gWe, ne_eq, Nat.reduceEqDiff, not_false_eq_true, true_or, or_true, true_and])) | (refine ⟨by omega, ?_⟩; (conv => whnf); try simp only [gO, gWe, ne_eq, Nat.reduceEqDiff, not_false_eq_true, true_or, or_true, true_and]) | (refine ⟨fun hb => ?_, ?_⟩ <;> first | (exfalso; omega; done) | exact absurd True.intro hb | ((conv => whnf); try simp only [gO, gWe, ne_eq, Nat.reduceEqDiff, not_false_eq_true, true_or, or_true, true_and])) | fail)
          refine t_125 (by omega) (fun _ => ?_) (fun c => absurd cg c)
          (conv => whnf); try simp only [gO, gWe, ne_eq, Nat.reduceEqDiff, not_false_eq_true, true_or, or_true, true_and]
          repeat' (first | exact True.intro | (refine ⟨fun hb => ?_, fun hb => ?_⟩ <;> first | (exfalso; omega; done) | exact absurd True.intro hb | ((conv => whnf); try simp only [gO, gWe, ne_eq, Nat.reduceEqDiff, not_false_eq_true, true_or, or_true, true_and])) | (refine ⟨by omega, ?_⟩; (conv => whnf); try simp only [gO, gWe, ne_eq, Nat.reduceEqDiff, not_false_eq_true, true_or, or_true, true_and]) | (refine ⟨fun hb => ?_, ?_⟩ <;> first | (exfalso; omega; done) | exact absurd True.intro hb | ((conv => whnf); try simp only [gO, gWe, ne_eq, Nat.reduceEqDiff, not_false_eq_true, true_or, or_true, true_and])) | fail)
          refine t_125 (by omega) (fun _ => ?_) (fun c => absurd cs c)
          (conv => whnf); try simp only [gO, gWe, ne_eq, Nat.reduceEqDiff, not_false_eq_true, true_or, or_true, true_and]
          repeat' (first | exact True.intro | (refine ⟨fun hb => ?_, fun hb => ?_⟩ <;> first | (exfalso; omega; done) | exact absurd True.intro hb | ((conv => whnf); try simp only [gO, gWe, ne_eq, Nat.reduceEqDiff, not_false_eq_true, true_or, or_true, true_and])) | (refine ⟨by omega, ?_⟩; (conv => whnf); try simp only [gO, gWe, ne_eq, Nat.reduceEqDiff, not_false_eq_true, true_or, or_true, true_and]) | (refine ⟨fun hb => ?_, ?_⟩ <;> first | (exfalso; omega; done) | exact absurd True.intro hb | ((conv => whnf); try simp only [gO, gWe, ne_eq, Nat.reduceEqDiff, not_false_eq_true, true_or, or_true, true_and])) | fail)
          refine t_146A (by omega) hA (fun ν hν _ hA2 hM => ?_)
          have st : hSt μ ν := hν.st (by decide)
          have l1' : (ν 0 6) = 1 := by rw [hν 0 (by decide)]; exact l1
          have x1 : (ν 1 0) = (μ 1 0) := by rw [st 1 (by decide) (by decide)]
          have x3 : (ν 3) = (μ 3) := st 3 (by decide) (by decide)
          have xr : xRt ν = xRt μ := by funext v; unfold xRt; rw [xWd_c st, hν 34 (by decide)]
          (conv => whnf); try simp only [gO, gWe, ne_eq, Nat.reduceEqDiff, not_false_eq_true, true_or, or_true, true_and]
          repeat' (first | exact True.intro | (refine ⟨fun hb => ?_, fun hb => ?_⟩ <;> first | (exfalso; omega; done) | exact absurd True.intro hb | ((conv => whnf); try simp only [gO, gWe, ne_eq, Nat.reduceEqDiff, not_false_eq_true, true_or, or_true, true_and])) | (refine ⟨by omega, ?_⟩; (conv => whnf); try simp only [gO, gWe, ne_eq, Nat.reduceEqDiff, not_false_eq_true, true_or, or_true, true_and]) | (refine ⟨fun hb => ?_, ?_⟩ <;> first | (exfalso; omega; done) | exact absurd True.intro hb | ((conv => whnf); try simp only [gO, gWe, ne_eq, Nat.reduceEqDiff, not_false_eq_true, true_or, or_true, true_and])) | fail)
          refine t_208 (by omega) (iAll_W hA2 l1') hM (fun hx ρ hρ hB => ?_) (fun hx ρ hρ => ?_)
          · rw [x1, x3] at hx
            unfold hBd at hB
            rw [x1, x3, xr, hν 34 (by decide), st 13 (by decide) (by decide)] at hB
            have f := k1 hx ρ (iAll_g hA2 hρ (by decide)) hB
            clear k1 k0 hB
            (conv => whnf); try simp only [gO, gWe, ne_eq, Nat.reduceEqDiff, not_false_eq_true, true_or, or_true, true_and]
            repeat' (first | exact True.intro | (refine ⟨fun hb => ?_, fun hb => ?_⟩ <;> first | (exfalso; omega; done) | exact absurd True.intro hb | ((conv => whnf); try simp only [gO, gWe, ne_eq, Nat.reduceEqDiff, not_false_eq_true, true_or, or_true, true_and])) | (refine ⟨by omega, ?_⟩; (conv => whnf); try simp only [gO, gWe, ne_eq, Nat.reduceEqDiff, not_false_eq_true, true_or, or_true, true_and]) | (refine ⟨fun hb => ?_, ?_⟩ <;> first | (exfalso; omega; done) | exact absurd True.intro hb | ((conv => whnf); try simp only [gO, gWe, ne_eq, Nat.reduceEqDiff, not_false_eq_true, true_or, or_true, true_and])) | fail)
            exact f
          · rw [x1, x3] at hx
            have f := k0 hx ρ (iAll_g hA2 hρ (by decide))
            clear k1 k0
            (conv => whnf); try simp only [gO, gWe, ne_eq, Nat.reduceEqDiff, not_false_eq_true, true_or, or_true, true_and]
            repeat' (first | exact True.intro | (refine ⟨fun hb => ?_, fun hb => ?_⟩ <;> first | (exfalso; omega; done) | exact absurd True.intro hb | ((conv => whnf); try simp only [gO, gWe, ne_eq, Nat.reduceEqDiff, not_false_eq_true, true_or, or_true, true_and])) | (refine ⟨by omega, ?_⟩; (conv => whnf); try simp only [gO, gWe, ne_eq, Nat.reduceEqDiff, not_false_eq_true, true_or, or_true, true_and]) | (refine ⟨fun hb => ?_, ?_⟩ <;> first | (exfalso; omega; done) | exact absurd True.intro hb | ((conv => whnf); try simp only [gO, gWe, ne_eq, Nat.reduceEqDiff, not_false_eq_true, true_or, or_true, true_and])) | fail)
            exact f
        obtain ⟨d, rfl⟩ := gD (show 1 ≤ D by omega)
        refine gC 300 [] rfl ?_
        (conv => whnf); try simp only [gO, gWe, ne_eq, Nat.reduceEqDiff, not_false_eq_true, true_or, or_true, true_and]
        repeat' (first | exact True.intro | (refine ⟨fun hb => ?_, fun hb => ?_⟩ <;> first | (exfalso; omega; done) | exact absurd True.intro hb | ((conv => whnf); try simp only [gO, gWe, ne_eq, Nat.reduceEqDiff, not_false_eq_true, true_or, or_true, true_and])) | (refine ⟨by omega, ?_⟩; (conv => whnf); try simp only [gO, gWe, ne_eq, Nat.reduceEqDiff, not_false_eq_true, true_or, or_true, true_and]) | (refine ⟨fun hb => ?_, ?_⟩ <;> first | (exfalso; omega; done) | exact absurd True.intro hb | ((conv => whnf); try simp only [gO, gWe, ne_eq, Nat.reduceEqDiff, not_false_eq_true, true_or, or_true, true_and])) | fail)
        refine t_122 (by omega) (fun _ => ?_) (fun c => absurd cg c)
        (conv => whnf); try simp only [gO, gWe, ne_eq, Nat.reduceEqDiff, not_false_eq_true, true_or, or_true, true_and]
        repeat' (first | exact True.intro | (refine ⟨fun hb => ?_, fun hb => ?_⟩ <;> first | (exfalso; omega; done) | exact absurd True.intro hb | ((conv => whnf); try simp only [gO, gWe, ne_eq, Nat.reduceEqDiff, not_false_eq_true, true_or, or_true, true_and])) | (refine ⟨by omega, ?_⟩; (conv => whnf); try simp only [gO, gWe, ne_eq, Nat.reduceEqDiff, not_false_eq_true, true_or, or_true, true_and]) | (refine ⟨fun hb => ?_, ?_⟩ <;> first | (exfalso; omega; done) | exact absurd True.intro hb | ((conv => whnf); try simp only [gO, gWe, ne_eq, Nat.reduceEqDiff, not_false_eq_true, true_or, or_true, true_and])) | fail)
        refine t_17 (by omega) hG (fun hx => ?_) (fun hx => ?_)
        · (conv => whnf); try simp only [gO, gWe, ne_eq, Nat.reduceEqDiff, not_false_eq_true, true_or, or_true, true_and]
          repeat' (first | exact True.intro | (refine ⟨fun hb => ?_, fun hb => ?_⟩ <;> first | (exfalso; omega; done) | exact absurd True.intro hb | ((conv => whnf); try simp only [gO, gWe, ne_eq, Nat.reduceEqDiff, not_false_eq_true, true_or, or_true, true_and])) | (refine ⟨by omega, ?_⟩; (conv => whnf); try simp only [gO, gWe, ne_eq, Nat.reduceEqDiff, not_false_eq_true, true_or, or_true, true_and]) | (refine ⟨fun hb => ?_, ?_⟩ <;> first | (exfalso; omega; done) | exact absurd True.intro hb | ((conv => whnf); try simp only [gO, gWe, ne_eq, Nat.reduceEqDiff, not_false_eq_true, true_or, or_true, true_and])) | fail)
          rcases (show s = 0 ∨ s = 1 ∨ s = 2 ∨ s = 3 by omega) with z | z | z | z <;> subst z
          · refine t_10_0 (by omega) hG hL hN hX ?_
            (conv => whnf); try simp only [gO, gWe, ne_eq, Nat.reduceEqDiff, not_false_eq_true, true_or, or_true, true_and]
            repeat' (first | exact True.intro | (refine ⟨fun hb => ?_, fun hb => ?_⟩ <;> first | (exfalso; omega; done) | exact absurd True.intro hb | ((conv => whnf); try simp only [gO, gWe, ne_eq, Nat.reduceEqDiff, not_false_eq_true, true_or, or_true, true_and])) | (refine ⟨by omega, ?_⟩; (conv => whnf); try simp only [gO, gWe, ne_eq, Nat.reduceEqDiff, not_false_eq_true, true_or, or_true, true_and]) | (refine ⟨fun hb => ?_, ?_⟩ <;> first | (exfalso; omega; done) | exact absurd True.intro hb | ((conv => whnf); try simp only [gO, gWe, ne_eq, Nat.reduceEqDiff, not_false_eq_true, true_or, or_true, true_and])) | fail)
            exact h _ μ (mod _ (by omega) _ (fun _ ρ hρ hB => h' _ _ ρ hB.1 hρ) (fun c => absurd hx c))
          · refine t_10_1 (by omega) hG hL hN hX ?_
            (conv => whnf); try simp only [gO, gWe, ne_eq, Nat.reduceEqDiff, not_false_eq_true, true_or, or_true, true_and]
            repeat' (first | exact True.intro | (refine ⟨fun hb => ?_, fun hb => ?_⟩ <;> first | (exfalso; omega; done) | exact absurd True.intro hb | ((conv => whnf); try simp only [gO, gWe, ne_eq, Nat.reduceEqDiff, not_false_eq_true, true_or, or_true, true_and])) | (refine ⟨by omega, ?_⟩; (conv => whnf); try simp only [gO, gWe, ne_eq, Nat.reduceEqDiff, not_false_eq_true, true_or, or_true, true_and]) | (refine ⟨fun hb => ?_, ?_⟩ <;> first | (exfalso; omega; done) | exact absurd True.intro hb | ((conv => whnf); try simp only [gO, gWe, ne_eq, Nat.reduceEqDiff, not_false_eq_true, true_or, or_true, true_and])) | fail)
            exact h _ μ (mod _ (by omega) _ (fun _ ρ hρ hB => h' _ _ ρ hB.2.1 hρ) (fun c => absurd hx c))
          · refine t_10_2 (by omega) hG hL hN hX ?_
            (conv => whnf); try simp only [gO, gWe, ne_eq, Nat.reduceEqDiff, not_false_eq_true, true_or, or_true, true_and]
            repeat' (first | exact True.intro | (refine ⟨fun hb => ?_, fun hb => ?_⟩ <;> first | (exfalso; omega; done) | exact absurd True.intro hb | ((conv => whnf); try simp only [gO, gWe, ne_eq, Nat.reduceEqDiff, not_false_eq_true, true_or, or_true, true_and])) | (refine ⟨by omega, ?_⟩; (conv => whnf); try simp only [gO, gWe, ne_eq, Nat.reduceEqDiff, not_false_eq_true, true_or, or_true, true_and]) | (refine ⟨fun hb => ?_, ?_⟩ <;> first | (exfalso; omega; done) | exact absurd True.intro hb | ((conv => whnf); try simp only [gO, gWe, ne_eq, Nat.reduceEqDiff, not_false_eq_true, true_or, or_true, true_and])) | fail)
            exact h _ μ (mod _ (by omega) _ (fun _ ρ hρ hB => h' _ _ ρ hB.2.2.1 hρ) (fun c => absurd hx c))
          · refine t_10_3 (by omega) hG hL hN hX ?_
            (conv => whnf); try simp only [gO, gWe, ne_eq, Nat.reduceEqDiff, not_false_eq_true, true_or, or_true, true_and]
            repeat' (first | exact True.intro | (refine ⟨fun hb => ?_, fun hb => ?_⟩ <;> first | (exfalso; omega; done) | exact absurd True.intro hb | ((conv => whnf); try simp only [gO, gWe, ne_eq, Nat.reduceEqDiff, not_false_eq_true, true_or, or_true, true_and])) | (refine ⟨by omega, ?_⟩; (conv => whnf); try simp only [gO, gWe, ne_eq, Nat.reduceEqDiff, not_false_eq_true, true_or, or_true, true_and]) | (refine ⟨fun hb => ?_, ?_⟩ <;> first | (exfalso; omega; done) | exact absurd True.intro hb | ((conv => whnf); try simp only [gO, gWe, ne_eq, Nat.reduceEqDiff, not_false_eq_true, true_or, or_true, true_and])) | fail)
            exact h _ μ (mod _ (by omega) _ (fun _ ρ hρ hB => h' _ _ ρ hB.2.2.2 hρ) (fun c => absurd hx c))
        · (conv => whnf); try simp only [gO, gWe, ne_eq, Nat.reduceEqDiff, not_false_eq_true, true_or, or_true, true_and]
          repeat' (first | exact True.intro | (refine ⟨fun hb => ?_, fun hb => ?_⟩ <;> first | (exfalso; omega; done) | exact absurd True.intro hb | ((conv => whnf); try simp only [gO, gWe, ne_eq, Nat.reduceEqDiff, not_false_eq_true, true_or, or_true, true_and])) | (refine ⟨by omega, ?_⟩; (conv => whnf); try simp only [gO, gWe, ne_eq, Nat.reduceEqDiff, not_false_eq_true, true_or, or_true, true_and]) | (refine ⟨fun hb => ?_, ?_⟩ <;> first | (exfalso; omega; done) | exact absurd True.intro hb | ((conv => whnf); try simp only [gO, gWe, ne_eq, Nat.reduceEqDiff, not_false_eq_true, true_or, or_true, true_and])) | fail)
          exact h _ μ (mod _ (by omega) _ (fun c => absurd c hx) (fun _ ρ hρ => h' _ _ ρ rfl hρ))
      · have bad : ∀ (D : Nat) (hD : 20 ≤ D) (Q : GQ), Q (some (gI (-1))) g_SH μ → gCall g_T g_F D 209 [gR 61, gI g, gI s] g_SH μ Q := by
          intro D hD Q k
          obtain ⟨d, rfl⟩ := gD (show 1 ≤ D by omega)
          refine gC 300 [] rfl ?_
          (conv => whnf); try simp only [gO, gWe, ne_eq, Nat.reduceEqDiff, not_false_eq_true, true_or, or_true, true_and]
          repeat' (first | exact True.intro | (refine ⟨fun hb => ?_, fun hb => ?_⟩ <;> first | (exfalso; omega; done) | exact absurd True.intro hb | ((conv => whnf); try simp only [gO, gWe, ne_eq, Nat.reduceEqDiff, not_false_eq_true, true_or, or_true, true_and])) | (refine ⟨by omega, ?_⟩; (conv => whnf); try simp only [gO, gWe, ne_eq, Nat.reduceEqDiff, not_false_eq_true, true_or, or_true, true_and]) | (refine ⟨fun hb => ?_, ?_⟩ <;> first | (exfalso; omega; done) | exact absurd True.intro hb | ((conv => whnf); try simp only [gO, gWe, ne_eq, Nat.reduceEqDiff, not_false_eq_true, true_or, or_true, true_and])) | fail)
          refine t_125 (by omega) (fun _ => ?_) (fun c => absurd cg c)
          (conv => whnf); try simp only [gO, gWe, ne_eq, Nat.reduceEqDiff, not_false_eq_true, true_or, or_true, true_and]
          repeat' (first | exact True.intro | (refine ⟨fun hb => ?_, fun hb => ?_⟩ <;> first | (exfalso; omega; done) | exact absurd True.intro hb | ((conv => whnf); try simp only [gO, gWe, ne_eq, Nat.reduceEqDiff, not_false_eq_true, true_or, or_true, true_and])) | (refine ⟨by omega, ?_⟩; (conv => whnf); try simp only [gO, gWe, ne_eq, Nat.reduceEqDiff, not_false_eq_true, true_or, or_true, true_and]) | (refine ⟨fun hb => ?_, ?_⟩ <;> first | (exfalso; omega; done) | exact absurd True.intro hb | ((conv => whnf); try simp only [gO, gWe, ne_eq, Nat.reduceEqDiff, not_false_eq_true, true_or, or_true, true_and])) | fail)
          refine t_125 (by omega) (fun c => absurd c cs) (fun _ => ?_)
          (conv => whnf); try simp only [gO, gWe, ne_eq, Nat.reduceEqDiff, not_false_eq_true, true_or, or_true, true_and]
          repeat' (first | exact True.intro | (refine ⟨fun hb => ?_, fun hb => ?_⟩ <;> first | (exfalso; omega; done) | exact absurd True.intro hb | ((conv => whnf); try simp only [gO, gWe, ne_eq, Nat.reduceEqDiff, not_false_eq_true, true_or, or_true, true_and])) | (refine ⟨by omega, ?_⟩; (conv => whnf); try simp only [gO, gWe, ne_eq, Nat.reduceEqDiff, not_false_eq_true, true_or, or_true, true_and]) | (refine ⟨fun hb => ?_, ?_⟩ <;> first | (exfalso; omega; done) | exact absurd True.intro hb | ((conv => whnf); try simp only [gO, gWe, ne_eq, Nat.reduceEqDiff, not_false_eq_true, true_or, or_true, true_and])) | fail)
          exact k
        obtain ⟨d, rfl⟩ := gD (show 1 ≤ D by omega)
        refine gC 300 [] rfl ?_
        (conv => whnf); try simp only [gO, gWe, ne_eq, Nat.reduceEqDiff, not_false_eq_true, true_or, or_true, true_and]
        repeat' (first | exact True.intro | (refine ⟨fun hb => ?_, fun hb => ?_⟩ <;> first | (exfalso; omega; done) | exact absurd True.intro hb | ((conv => whnf); try simp only [gO, gWe, ne_eq, Nat.reduceEqDiff, not_false_eq_true, true_or, or_true, true_and])) | (refine ⟨by omega, ?_⟩; (conv => whnf); try simp only [gO, gWe, ne_eq, Nat.reduceEqDiff, not_false_eq_true, true_or, or_true, true_and]) | (refine ⟨fun hb => ?_, ?_⟩ <;> first | (exfalso; omega; done) | exact absurd True.intro hb | ((conv => whnf); try simp only [gO, gWe, ne_eq, Nat.reduceEqDiff, not_false_eq_true, true_or, or_true, true_and])) | fail)
        refine t_122 (by omega) (fun _ => ?_) (fun c => absurd cg c)
        (conv => whnf); try simp only [gO, gWe, ne_eq, Nat.reduceEqDiff, not_false_eq_true, true_or, or_true, true_and]
        repeat' (first | exact True.intro | (refine ⟨fun hb => ?_, fun hb => ?_⟩ <;> first | (exfalso; omega; done) | exact absurd True.intro hb | ((conv => whnf); try simp only [gO, gWe, ne_eq, Nat.reduceEqDiff, not_false_eq_true, true_or, or_true, true_and])) | (refine ⟨by omega, ?_⟩; (conv => whnf); try simp only [gO, gWe, ne_eq, Nat.reduceEqDiff, not_false_eq_true, true_or, or_true, true_and]) | (refine ⟨fun hb => ?_, ?_⟩ <;> first | (exfalso; omega; done) | exact absurd True.intro hb | ((conv => whnf); try simp only [gO, gWe, ne_eq, Nat.reduceEqDiff, not_false_eq_true, true_or, or_true, true_and])) | fail)
        · exact h _ μ (bad _ (by omega) _ (h' _ _ μ rfl hA))
        · exact h _ μ (bad _ (by omega) _ (h' _ _ μ rfl hA))
    · obtain ⟨d, rfl⟩ := gD (show 1 ≤ D by omega)
      refine gC 300 [] rfl ?_
      (conv => whnf); try simp only [gO, gWe, ne_eq, Nat.reduceEqDiff, not_false_eq_true, true_or, or_true, true_and]
      repeat' (first | exact True.intro | (refine ⟨fun hb => ?_, fun hb => ?_⟩ <;> first | (exfalso; omega; done) | exact absurd True.intro hb | ((conv => whnf); try simp only [gO, gWe, ne_eq, Nat.reduceEqDiff, not_false_eq_true, true_or, or_true, true_and])) | (refine ⟨by omega, ?_⟩; (conv => whnf); try simp only [gO, gWe, ne_eq, Nat.reduceEqDiff, not_false_eq_true, true_or, or_true, true_and]) | (refine ⟨fun hb => ?_, ?_⟩ <;> first | (exfalso; omega; done) | exact absurd True.intro hb | ((conv => whnf); try simp only [gO, gWe, ne_eq, Nat.reduceEqDiff, not_false_eq_true, true_or, or_true, true_and])) | fail)
      refine t_122 (by omega) (fun c => absurd c cg) (fun _ => ?_)
      (conv => whnf); try simp only [gO, gWe, ne_eq, Nat.reduceEqDiff, not_false_eq_true, true_or, or_true, true_and]
      repeat' (first | exact True.intro | (refine ⟨fun hb => ?_, fun hb => ?_⟩ <;> first | (exfalso; omega; done) | exact absurd True.intro hb | ((conv => whnf); try simp only [gO, gWe, ne_eq, Nat.reduceEqDiff, not_false_eq_true, true_or, or_true, true_and])) | (refine ⟨by omega, ?_⟩; (conv => whnf); try simp only [gO, gWe, ne_eq, Nat.reduceEqDiff, not_false_eq_true, true_or, or_true, true_and]) | (refine ⟨fun hb => ?_, ?_⟩ <;> first | (exfalso; omega; done) | exact absurd True.intro hb | ((conv => whnf); try simp only [gO, gWe, ne_eq, Nat.reduceEqDiff, not_false_eq_true, true_or, or_true, true_and])) | fail)
      refine h _ μ ?_
      refine gC 300 [] rfl ?_
      (conv => whnf); try simp only [gO, gWe, ne_eq, Nat.reduceEqDiff, not_false_eq_true, true_or, or_true, true_and]
      repeat' (first | exact True.intro | (refine ⟨fun hb => ?_, fun hb => ?_⟩ <;> first | (exfalso; omega; done) | exact absurd True.intro hb | ((conv => whnf); try simp only [gO, gWe, ne_eq, Nat.reduceEqDiff, not_false_eq_true, true_or, or_true, true_and])) | (refine ⟨by omega, ?_⟩; (conv => whnf); try simp only [gO, gWe, ne_eq, Nat.reduceEqDiff, not_false_eq_true, true_or, or_true, true_and]) | (refine ⟨fun hb => ?_, ?_⟩ <;> first | (exfalso; omega; done) | exact absurd True.intro hb | ((conv => whnf); try simp only [gO, gWe, ne_eq, Nat.reduceEqDiff, not_false_eq_true, true_or, or_true, true_and])) | fail)
      refine t_125 (by omega) (fun c => absurd c cg) (fun _ => ?_)
      (conv => whnf); try simp only [gO, gWe, ne_eq, Nat.reduceEqDiff, not_false_eq_true, true_or, or_true, true_and]
      repeat' (first | exact True.intro | (refine ⟨fun hb => ?_, fun hb => ?_⟩ <;> first | (exfalso; omega; done) | exact absurd True.intro hb | ((conv => whnf); try simp only [gO, gWe, ne_eq, Nat.reduceEqDiff, not_false_eq_true, true_or, or_true, true_and])) | (refine ⟨by omega, ?_⟩; (conv => whnf); try simp only [gO, gWe, ne_eq, Nat.reduceEqDiff, not_false_eq_true, true_or, or_true, true_and]) | (refine ⟨fun hb => ?_, ?_⟩ <;> first | (exfalso; omega; done) | exact absurd True.intro hb | ((conv => whnf); try simp only [gO, gWe, ne_eq, Nat.reduceEqDiff, not_false_eq_true, true_or, or_true, true_and])) | fail)
      exact h' _ _ μ rfl hA
  · have l0 : (μ 0 6) = 0 := by have := hA.1.2.2.1; omega
    have ml := hA.2.1.2.1
    obtain ⟨d, rfl⟩ := gD (show 1 ≤ D by omega)
    refine gC 300 [] rfl ?_
    (conv => whnf); try simp only [gO, gWe, ne_eq, Nat.reduceEqDiff, not_false_eq_true, true_or, or_true, true_and]
    repeat' (first | exact True.intro | (refine ⟨fun hb => ?_, fun hb => ?_⟩ <;> first | (exfalso; omega; done) | exact absurd True.intro hb | ((conv => whnf); try simp only [gO, gWe, ne_eq, Nat.reduceEqDiff, not_false_eq_true, true_or, or_true, true_and])) | (refine ⟨by omega, ?_⟩; (conv => whnf); try simp only [gO, gWe, ne_eq, Nat.reduceEqDiff, not_false_eq_true, true_or, or_true, true_and]) | (refine ⟨fun hb => ?_, ?_⟩ <;> first | (exfalso; omega; done) | exact absurd True.intro hb | ((conv => whnf); try simp only [gO, gWe, ne_eq, Nat.reduceEqDiff, not_false_eq_true, true_or, or_true, true_and])) | fail)
    refine h _ μ ?_
    refine gC 300 [] rfl ?_
    (conv => whnf); try simp only [gO, gWe, ne_eq, Nat.reduceEqDiff, not_false_eq_true, true_or, or_true, true_and]
    repeat' (first | exact True.intro | (refine ⟨fun hb => ?_, fun hb => ?_⟩ <;> first | (exfalso; omega; done) | exact absurd True.intro hb | ((conv => whnf); try simp only [gO, gWe, ne_eq, Nat.reduceEqDiff, not_false_eq_true, true_or, or_true, true_and])) | (refine ⟨by omega, ?_⟩; (conv => whnf); try simp only [gO, gWe, ne_eq, Nat.reduceEqDiff, not_false_eq_true, true_or, or_true, true_and]) | (refine ⟨fun hb => ?_, ?_⟩ <;> first | (exfalso; omega; done) | exact absurd True.intro hb | ((conv => whnf); try simp only [gO, gWe, ne_eq, Nat.reduceEqDiff, not_false_eq_true, true_or, or_true, true_and])) | fail)
    exact h' _ _ μ rfl hA
