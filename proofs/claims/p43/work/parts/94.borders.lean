variable {sN : Int} {sX : Int → Int}
/-! the law's borders -/
theorem r_102n {D : Nat} (hD : 30 ≤ D) {μ : MU} {Q : GQ} {i : Int} (hW : iW μ) (i0 : 0 ≤ i) (i1 : i < (μ 1 0)) (h : Q (some (gI ((μ 34) i))) g_SH μ) : gCall g_T g_F sN sX D 102 [gR 0, gI i] g_SH μ Q := by
  have hG := hW.1.1
  have hL := hW.1.2.1
  obtain ⟨hN, hO, hC, hX⟩ := hW.1.2.2.2 hW.2
  have l1 := hW.2
  have G := hG.1
  have L := hL.2.2.2.1
  have V := hN.1
  have nm := (hN.2.2.2.1 i i0 i1).1
  have q := r_102 (sN := sN) (sX := sX) (Q := Q) hD hW hRd.rf (v := i) i0 (by omega) h
  rw [nm] at q
  exact q
theorem r_85n {D : Nat} (hD : 30 ≤ D) {μ : MU} {Q : GQ} {i : Int} (hW : iW μ) (i0 : 0 ≤ i) (i1 : i < (μ 1 0)) (h : Q (some (gI ((μ 13) i))) g_SH μ) : gCall g_T g_F sN sX D 85 [gR 0, gI i] g_SH μ Q := r_85 hD hW hRd.rf (by
  unfold xLay
  rw [if_pos ⟨i0, i1⟩]
  exact h)
def bMn (f p : Int → Int) (g : Int) : Nat → Int
  | 0 => 100000
  | k + 1 => if p k = g then (if f k < bMn f p g k then f k else bMn f p g k) else bMn f p g k
def bMx (f p : Int → Int) (g : Int) : Nat → Int
  | 0 => -1
  | k + 1 => if p k = g then (if bMx f p g k < f k then f k else bMx f p g k) else bMx f p g k
theorem bMn_s {f p : Int → Int} {g i : Int} (i0 : 0 ≤ i) : bMn f p g (i + 1).toNat = if p i = g then (if f i < bMn f p g i.toNat then f i else bMn f p g i.toNat) else bMn f p g i.toNat := by
  rw [show (i + 1).toNat = i.toNat + 1 by omega]
  show (if p (i.toNat : Int) = g then _ else _) = _
  rw [show ((i.toNat : Nat) : Int) = i by omega]
theorem bMx_s {f p : Int → Int} {g i : Int} (i0 : 0 ≤ i) : bMx f p g (i + 1).toNat = if p i = g then (if bMx f p g i.toNat < f i then f i else bMx f p g i.toNat) else bMx f p g i.toNat := by
  rw [show (i + 1).toNat = i.toNat + 1 by omega]
  show (if p (i.toNat : Int) = g then _ else _) = _
  rw [show ((i.toNat : Nat) : Int) = i by omega]
theorem bM_e {f p : Int → Int} {g : Int} {n : Nat} (hf : ∀ i : Int, 0 ≤ i → i < n → 0 ≤ f i ∧ f i ≤ 2000) : ∀ k : Nat, k ≤ n → ((¬ ∃ i : Int, 0 ≤ i ∧ i < k ∧ p i = g) ∧ bMn f p g k = 100000 ∧ hMn f p g k = 1073741824 ∧ bMx f p g k = -1 ∧ hMg2 f p g k = 0) ∨ ((∃ i : Int, 0 ≤ i ∧ i < k ∧ p i = g) ∧ bMn f p g k = hMn f p g k ∧ (0 ≤ bMn f p g k ∧ bMn f p g k ≤ 2000) ∧ bMx f p g k = hMg2 f p g k ∧ 0 ≤ bMx f p g k ∧ bMx f p g k ≤ 2000) := by
  intro k
  induction k with
  | zero => intro _; exact Or.inl ⟨fun ⟨i, a, b, _⟩ => by omega, rfl, rfl, rfl, rfl⟩
  | succ k ih =>
    intro hk
    have b := hf k (by omega) (by omega)
    unfold bMn bMx hMn hMg2
    by_cases c : p k = g
    · rw [if_pos c, if_pos c, if_pos c, if_pos c]
      refine Or.inr ⟨⟨k, by omega, by omega, c⟩, ?_⟩
      rcases ih (by omega) with ⟨-, a1, a2, a3, a4⟩ | ⟨-, a1, a2, a3, a4⟩
      · rw [a1, a2, a3, a4, if_pos (by omega), if_pos (by omega)]
        omega
      · rw [← a1, ← a3]
        by_cases d : f k < bMn f p g k <;> by_cases e : bMx f p g k < f k <;> simp only [d, e, if_true, if_false] <;> omega
    · rw [if_neg c, if_neg c, if_neg c, if_neg c]
      rcases ih (by omega) with ⟨a0, a1⟩ | ⟨⟨i, i0, i1, i2⟩, a1⟩
      · refine Or.inl ⟨fun ⟨i, i0, i1, i2⟩ => ?_, a1⟩
        by_cases e : i = k
        · rw [e] at i2
          exact c i2
        · exact a0 ⟨i, i0, by omega, i2⟩
      · exact Or.inr ⟨⟨i, i0, by omega, i2⟩, a1⟩
theorem r_131g {d : Nat} (hD : 32 ≤ d) {μ : MU} {Q : GQ} {g : Int} (hW : iW μ) (hw : hLw μ) (g0 : 1 ≤ g) (g1 : g ≤ 3)
    (kk : ∀ (x6 x7 x8 x9 x10 x11 x12 : GV), gG g_T g_F (gCall g_T g_F sN sX d) sN sX (g_T 131) Q 6 [gR 0, gR 61, gR 62, gI (μ 1 0), gI 1, gI (g + 1), x6, x7, x8, x9, x10, x11, x12] [] g_SH μ 0 0) (x6 x7 x8 x9 x10 x11 x12 : GV) : gG g_T g_F (gCall g_T g_F sN sX d) sN sX (g_T 131) Q 6 [gR 0, gR 61, gR 62, gI (μ 1 0), gI 1, gI g, x6, x7, x8, x9, x10, x11, x12] [] g_SH μ 0 0 := by
  have hG := hW.1.1
  have hL := hW.1.2.1
  obtain ⟨hN, hO, hC, hX⟩ := hW.1.2.2.2 hW.2
  have l1 := hW.2
  have G := hG.1
  have L := hL.2.2.2.1
  have V := hN.1
  have bl : ∀ i : Int, 0 ≤ i → i < (μ 1 0) → 0 ≤ (μ 34) i ∧ (μ 34) i ≤ 1000 := fun i i0 i1 => hX i i0 (by omega)
  have br : ∀ i : Int, 0 ≤ i → i < (μ 1 0) → 0 ≤ xRt μ i ∧ xRt μ i ≤ 2000 := fun i i0 i1 => xRt_b hG hX i0 (by omega)
  have by' : ∀ i : Int, 0 ≤ i → i < (μ 1 0) → 0 ≤ (μ 13) i ∧ (μ 13) i ≤ 34 := fun i i0 i1 => by
    have := hL.2.2.1 i i0 i1
    omega
  have rv : ∀ i : Int, i < (μ 1 0) → xRt μ i = (μ 34) i + (μ 2) i := fun i i1 => by
    unfold xRt xWd
    rw [if_pos i1]
  have e1 := fun k hk => bM_e (f := (μ 34)) (p := (μ 3)) (g := g) (n := (μ 1 0).toNat) (fun i i0 i1 => by have := bl i i0 (by omega); omega) k hk
  have e2 := fun k hk => bM_e (f := xRt μ) (p := (μ 3)) (g := g) (n := (μ 1 0).toNat) (fun i i0 i1 => br i i0 (by omega)) k hk
  have e3 := fun k hk => bM_e (f := (μ 13)) (p := (μ 3)) (g := g) (n := (μ 1 0).toNat) (fun i i0 i1 => by have := by' i i0 (by omega); omega) k hk
  have hh : hHs μ g ↔ ∃ i : Int, 0 ≤ i ∧ i < (μ 1 0).toNat ∧ (μ 3) i = g := by
    unfold hHs
    constructor
    · rintro ⟨i, i0, i1, i2⟩
      exact ⟨i, i0, by omega, i2⟩
    · rintro ⟨i, i0, i1, i2⟩
      exact ⟨i, i0, by omega, i2⟩
  -- the end of a group
  have fin : ∀ x12 : GV, gG g_T g_F (gCall g_T g_F sN sX d) sN sX (g_T 131) Q 259 [gR 0, gR 61, gR 62, gI (μ 1 0), gI 1, gI g, gI (bMn (μ 34) (μ 3) g (μ 1 0).toNat), gI (bMx (xRt μ) (μ 3) g (μ 1 0).toNat), gI (bMn (μ 13) (μ 3) g (μ 1 0).toNat), gI (bMx (μ 13) (μ 3) g (μ 1 0).toNat), gI (xIn (μ 13) (μ 34) (xRt μ) (μ 3) (bMn (μ 34) (μ 3) g (μ 1 0).toNat) (bMx (xRt μ) (μ 3) g (μ 1 0).toNat) (bMn (μ 13) (μ 3) g (μ 1 0).toNat) (bMx (μ 13) (μ 3) g (μ 1 0).toNat) g (μ 1 0).toNat), gI (μ 1 0), x12] [] g_SH μ 0 0 := by
    intro x12
    have f1 := e1 (μ 1 0).toNat (Nat.le_refl _)
    have f2 := e2 (μ 1 0).toNat (Nat.le_refl _)
    have f3 := e3 (μ 1 0).toNat (Nat.le_refl _)
    by_cases c : hHs μ g
    · have c' := hh.mp c
      rcases f1 with f1 | f1
      · exact absurd c' f1.1
      rcases f2 with f2 | f2
      · exact absurd c' f2.1
      rcases f3 with f3 | f3
      · exact absurd c' f3.1
      have k0 : hBr μ g 0 = bMn (μ 34) (μ 3) g (μ 1 0).toNat := f1.2.1.symm
      have k1 : hBr μ g 1 = bMx (xRt μ) (μ 3) g (μ 1 0).toNat := f2.2.2.2.1.symm
      have k2 : hBr μ g 2 = bMn (μ 13) (μ 3) g (μ 1 0).toNat := f3.2.1.symm
      have k3 : hBr μ g 3 = bMx (μ 13) (μ 3) g (μ 1 0).toNat := f3.2.2.2.1.symm
      have k4 : xInt μ g = xIn (μ 13) (μ 34) (xRt μ) (μ 3) (bMn (μ 34) (μ 3) g (μ 1 0).toNat) (bMx (xRt μ) (μ 3) g (μ 1 0).toNat) (bMn (μ 13) (μ 3) g (μ 1 0).toNat) (bMx (μ 13) (μ 3) g (μ 1 0).toNat) g (μ 1 0).toNat := by
        unfold xInt
        rw [← f1.2.1, ← f2.2.2.2.1, ← f3.2.1, ← f3.2.2.2.1]
      have r0 := f2.2.2.2.2.1
      clear f1 f2 f3 e1 e2 e3 hh c' rv
      generalize bMn (μ 34) (μ 3) g (μ 1 0).toNat = a0 at *
      generalize bMx (xRt μ) (μ 3) g (μ 1 0).toNat = a1 at *
      generalize bMn (μ 13) (μ 3) g (μ 1 0).toNat = a2 at *
      generalize bMx (μ 13) (μ 3) g (μ 1 0).toNat = a3 at *
      generalize xIn (μ 13) (μ 34) (xRt μ) (μ 3) a0 a1 a2 a3 g (μ 1 0).toNat = a4 at *
      have n2 := kk (gI a0) (gI a1) (gI a2) (gI a3) (gI a4) (gI (μ 1 0)) x12
      clear kk
      refine gB_gG [6] 300 ?_
      (conv => whnf); try simp only [gO, gWe, ne_eq, Nat.reduceEqDiff, not_false_eq_true, true_or, or_true, true_and]
      repeat' (first | exact True.intro | (refine ⟨fun hb => ?_, fun hb => ?_⟩ <;> first | (exfalso; omega; done) | exact absurd True.intro hb | ((conv => whnf); try simp only [gO, gWe, ne_eq, Nat.reduceEqDiff, not_false_eq_true, true_or, or_true, true_and])) | (refine ⟨by omega, ?_⟩; (conv => whnf); try simp only [gO, gWe, ne_eq, Nat.reduceEqDiff, not_false_eq_true, true_or, or_true, true_and]) | (refine ⟨fun hb => ?_, ?_⟩ <;> first | (exfalso; omega; done) | exact absurd True.intro hb | ((conv => whnf); try simp only [gO, gWe, ne_eq, Nat.reduceEqDiff, not_false_eq_true, true_or, or_true, true_and])) | fail)
      refine r_106_0 (by omega) hW g0 g1 (fun _ => ?_) (fun q => absurd c q)
      rw [k0]
      (conv => whnf); try simp only [gO, gWe, ne_eq, Nat.reduceEqDiff, not_false_eq_true, true_or, or_true, true_and]
      repeat' (first | exact True.intro | (refine ⟨fun hb => ?_, fun hb => ?_⟩ <;> first | (exfalso; omega; done) | exact absurd True.intro hb | ((conv => whnf); try simp only [gO, gWe, ne_eq, Nat.reduceEqDiff, not_false_eq_true, true_or, or_true, true_and])) | (refine ⟨by omega, ?_⟩; (conv => whnf); try simp only [gO, gWe, ne_eq, Nat.reduceEqDiff, not_false_eq_true, true_or, or_true, true_and]) | (refine ⟨fun hb => ?_, ?_⟩ <;> first | (exfalso; omega; done) | exact absurd True.intro hb | ((conv => whnf); try simp only [gO, gWe, ne_eq, Nat.reduceEqDiff, not_false_eq_true, true_or, or_true, true_and])) | fail)
      all_goals first | exact absurd rfl hb | skip
      refine r_106_1 (by omega) hW g0 g1 (fun _ => ?_) (fun q => absurd c q)
      rw [k1]
      (conv => whnf); try simp only [gO, gWe, ne_eq, Nat.reduceEqDiff, not_false_eq_true, true_or, or_true, true_and]
      repeat' (first | exact True.intro | (refine ⟨fun hb => ?_, fun hb => ?_⟩ <;> first | (exfalso; omega; done) | exact absurd True.intro hb | ((conv => whnf); try simp only [gO, gWe, ne_eq, Nat.reduceEqDiff, not_false_eq_true, true_or, or_true, true_and])) | (refine ⟨by omega, ?_⟩; (conv => whnf); try simp only [gO, gWe, ne_eq, Nat.reduceEqDiff, not_false_eq_true, true_or, or_true, true_and]) | (refine ⟨fun hb => ?_, ?_⟩ <;> first | (exfalso; omega; done) | exact absurd True.intro hb | ((conv => whnf); try simp only [gO, gWe, ne_eq, Nat.reduceEqDiff, not_false_eq_true, true_or, or_true, true_and])) | fail)
      all_goals first | exact absurd rfl hb | skip
      refine r_106_2 (by omega) hW g0 g1 (fun _ => ?_) (fun q => absurd c q)
      rw [k2]
      (conv => whnf); try simp only [gO, gWe, ne_eq, Nat.reduceEqDiff, not_false_eq_true, true_or, or_true, true_and]
      repeat' (first | exact True.intro | (refine ⟨fun hb => ?_, fun hb => ?_⟩ <;> first | (exfalso; omega; done) | exact absurd True.intro hb | ((conv => whnf); try simp only [gO, gWe, ne_eq, Nat.reduceEqDiff, not_false_eq_true, true_or, or_true, true_and])) | (refine ⟨by omega, ?_⟩; (conv => whnf); try simp only [gO, gWe, ne_eq, Nat.reduceEqDiff, not_false_eq_true, true_or, or_true, true_and]) | (refine ⟨fun hb => ?_, ?_⟩ <;> first | (exfalso; omega; done) | exact absurd True.intro hb | ((conv => whnf); try simp only [gO, gWe, ne_eq, Nat.reduceEqDiff, not_false_eq_true, true_or, or_true, true_and])) | fail)
      all_goals first | exact absurd rfl hb | skip
      refine r_106_3 (by omega) hW g0 g1 (fun _ => ?_) (fun q => absurd c q)
      rw [k3]
      (conv => whnf); try simp only [gO, gWe, ne_eq, Nat.reduceEqDiff, not_false_eq_true, true_or, or_true, true_and]
      repeat' (first | exact True.intro | (refine ⟨fun hb => ?_, fun hb => ?_⟩ <;> first | (exfalso; omega; done) | exact absurd True.intro hb | ((conv => whnf); try simp only [gO, gWe, ne_eq, Nat.reduceEqDiff, not_false_eq_true, true_or, or_true, true_and])) | (refine ⟨by omega, ?_⟩; (conv => whnf); try simp only [gO, gWe, ne_eq, Nat.reduceEqDiff, not_false_eq_true, true_or, or_true, true_and]) | (refine ⟨fun hb => ?_, ?_⟩ <;> first | (exfalso; omega; done) | exact absurd True.intro hb | ((conv => whnf); try simp only [gO, gWe, ne_eq, Nat.reduceEqDiff, not_false_eq_true, true_or, or_true, true_and])) | fail)
      all_goals first | exact absurd rfl hb | skip
      refine r_107 (by omega) hW g0 g1 (fun _ => ?_) (fun q => absurd c q)
      rw [k4]
      (conv => whnf); try simp only [gO, gWe, ne_eq, Nat.reduceEqDiff, not_false_eq_true, true_or, or_true, true_and]
      repeat' (first | exact True.intro | (refine ⟨fun hb => ?_, fun hb => ?_⟩ <;> first | (exfalso; omega; done) | exact absurd True.intro hb | ((conv => whnf); try simp only [gO, gWe, ne_eq, Nat.reduceEqDiff, not_false_eq_true, true_or, or_true, true_and])) | (refine ⟨by omega, ?_⟩; (conv => whnf); try simp only [gO, gWe, ne_eq, Nat.reduceEqDiff, not_false_eq_true, true_or, or_true, true_and]) | (refine ⟨fun hb => ?_, ?_⟩ <;> first | (exfalso; omega; done) | exact absurd True.intro hb | ((conv => whnf); try simp only [gO, gWe, ne_eq, Nat.reduceEqDiff, not_false_eq_true, true_or, or_true, true_and])) | fail)
      all_goals first | exact absurd rfl hb | exact n2
    · have c' : ¬ ∃ i : Int, 0 ≤ i ∧ i < (μ 1 0).toNat ∧ (μ 3) i = g := fun q => c (hh.mpr q)
      rcases f2 with f2 | f2
      · have r0 := f2.2.2.2.1
        clear f1 f2 f3 e1 e2 e3 hh c' rv
        generalize bMn (μ 34) (μ 3) g (μ 1 0).toNat = a0 at *
        generalize bMx (xRt μ) (μ 3) g (μ 1 0).toNat = a1 at *
        generalize bMn (μ 13) (μ 3) g (μ 1 0).toNat = a2 at *
        generalize bMx (μ 13) (μ 3) g (μ 1 0).toNat = a3 at *
        generalize xIn (μ 13) (μ 34) (xRt μ) (μ 3) a0 a1 a2 a3 g (μ 1 0).toNat = a4 at *
        have n2 := kk (gI a0) (gI a1) (gI a2) (gI a3) (gI a4) (gI (μ 1 0)) x12
        clear kk
        refine gB_gG [6] 300 ?_
        (conv => whnf); try simp only [gO, gWe, ne_eq, Nat.reduceEqDiff, not_false_eq_true, true_or, or_true, true_and]
        repeat' (first | exact True.intro | (refine ⟨fun hb => ?_, fun hb => ?_⟩ <;> first | (exfalso; omega; done) | exact absurd True.intro hb | ((conv => whnf); try simp only [gO, gWe, ne_eq, Nat.reduceEqDiff, not_false_eq_true, true_or, or_true, true_and])) | (refine ⟨by omega, ?_⟩; (conv => whnf); try simp only [gO, gWe, ne_eq, Nat.reduceEqDiff, not_false_eq_true, true_or, or_true, true_and]) | (refine ⟨fun hb => ?_, ?_⟩ <;> first | (exfalso; omega; done) | exact absurd True.intro hb | ((conv => whnf); try simp only [gO, gWe, ne_eq, Nat.reduceEqDiff, not_false_eq_true, true_or, or_true, true_and])) | fail)
        refine r_106_0 (by omega) hW g0 g1 (fun q => absurd q c) (fun _ => ?_)
        (conv => whnf); try simp only [gO, gWe, ne_eq, Nat.reduceEqDiff, not_false_eq_true, true_or, or_true, true_and]
        repeat' (first | exact True.intro | (refine ⟨fun hb => ?_, fun hb => ?_⟩ <;> first | (exfalso; omega; done) | exact absurd True.intro hb | ((conv => whnf); try simp only [gO, gWe, ne_eq, Nat.reduceEqDiff, not_false_eq_true, true_or, or_true, true_and])) | (refine ⟨by omega, ?_⟩; (conv => whnf); try simp only [gO, gWe, ne_eq, Nat.reduceEqDiff, not_false_eq_true, true_or, or_true, true_and]) | (refine ⟨fun hb => ?_, ?_⟩ <;> first | (exfalso; omega; done) | exact absurd True.intro hb | ((conv => whnf); try simp only [gO, gWe, ne_eq, Nat.reduceEqDiff, not_false_eq_true, true_or, or_true, true_and])) | fail)
        refine r_107 (by omega) hW g0 g1 (fun q => absurd q c) (fun _ => ?_)
        (conv => whnf); try simp only [gO, gWe, ne_eq, Nat.reduceEqDiff, not_false_eq_true, true_or, or_true, true_and]
        repeat' (first | exact True.intro | (refine ⟨fun hb => ?_, fun hb => ?_⟩ <;> first | (exfalso; omega; done) | exact absurd True.intro hb | ((conv => whnf); try simp only [gO, gWe, ne_eq, Nat.reduceEqDiff, not_false_eq_true, true_or, or_true, true_and])) | (refine ⟨by omega, ?_⟩; (conv => whnf); try simp only [gO, gWe, ne_eq, Nat.reduceEqDiff, not_false_eq_true, true_or, or_true, true_and]) | (refine ⟨fun hb => ?_, ?_⟩ <;> first | (exfalso; omega; done) | exact absurd True.intro hb | ((conv => whnf); try simp only [gO, gWe, ne_eq, Nat.reduceEqDiff, not_false_eq_true, true_or, or_true, true_and])) | fail)
        exact n2
      · exact absurd f2.1 c'
  clear kk e1 e2 e3 hh
  -- who intrudes
  have lpB : ∀ i : Int, 0 ≤ i → i ≤ (μ 1 0) → ∀ x12 : GV, gG g_T g_F (gCall g_T g_F sN sX d) sN sX (g_T 131) Q 167 [gR 0, gR 61, gR 62, gI (μ 1 0), gI 1, gI g, gI (bMn (μ 34) (μ 3) g (μ 1 0).toNat), gI (bMx (xRt μ) (μ 3) g (μ 1 0).toNat), gI (bMn (μ 13) (μ 3) g (μ 1 0).toNat), gI (bMx (μ 13) (μ 3) g (μ 1 0).toNat), gI (xIn (μ 13) (μ 34) (xRt μ) (μ 3) (bMn (μ 34) (μ 3) g (μ 1 0).toNat) (bMx (xRt μ) (μ 3) g (μ 1 0).toNat) (bMn (μ 13) (μ 3) g (μ 1 0).toNat) (bMx (μ 13) (μ 3) g (μ 1 0).toNat) g i.toNat), gI i, x12] [] g_SH μ 0 0 := by
    generalize bMn (μ 34) (μ 3) g (μ 1 0).toNat = a0 at *
    generalize bMx (xRt μ) (μ 3) g (μ 1 0).toNat = a1 at *
    generalize bMn (μ 13) (μ 3) g (μ 1 0).toNat = a2 at *
    generalize bMx (μ 13) (μ 3) g (μ 1 0).toNat = a3 at *
    refine g_up (fun i i0 i1 ih x12 => ?_) (fun x12 => ?_)
    · have b1 := bl i i0 i1
      have b2 := br i i0 i1
      have b3 := rv i i1
      have b5 := hw i i0 i1
      have xb := xIn_b (ly := (μ 13)) (lf := (μ 34)) (rt := xRt μ) (gr := (μ 3)) (F0 := a0) (F1 := a1) (F2 := a2) (F3 := a3) (g := g) i.toNat
      rw [xIn_s i0] at ih
      generalize xIn (μ 13) (μ 34) (xRt μ) (μ 3) a0 a1 a2 a3 g i.toNat = m at *
      rw [← b5.2, b3, ← b5.1] at ih
      clear fin bl br rv by'
      by_cases c : (a2 ≤ (μ 13) i ∧ (μ 13) i ≤ a3 ∧ (μ 34) i < a1 ∧ a0 < (μ 34) i + (μ 61) i) ∧ (μ 62) i ≠ g
      · rw [if_pos c] at ih
        refine gB_gG [167] 300 ?_
        (conv => whnf); try simp only [gO, gWe, ne_eq, Nat.reduceEqDiff, not_false_eq_true, true_or, or_true, true_and]
        repeat' (first | exact True.intro | (refine ⟨fun hb => ?_, fun hb => ?_⟩ <;> first | (exfalso; omega; done) | exact absurd True.intro hb | ((conv => whnf); try simp only [gO, gWe, ne_eq, Nat.reduceEqDiff, not_false_eq_true, true_or, or_true, true_and])) | (refine ⟨by omega, ?_⟩; (conv => whnf); try simp only [gO, gWe, ne_eq, Nat.reduceEqDiff, not_false_eq_true, true_or, or_true, true_and]) | (refine ⟨fun hb => ?_, ?_⟩ <;> first | (exfalso; omega; done) | exact absurd True.intro hb | ((conv => whnf); try simp only [gO, gWe, ne_eq, Nat.reduceEqDiff, not_false_eq_true, true_or, or_true, true_and])) | fail)
        refine r_85n (by omega) hW i0 i1 ?_
        (conv => whnf); try simp only [gO, gWe, ne_eq, Nat.reduceEqDiff, not_false_eq_true, true_or, or_true, true_and]
        repeat' (first | exact True.intro | (refine ⟨fun hb => ?_, fun hb => ?_⟩ <;> first | (exfalso; omega; done) | exact absurd True.intro hb | ((conv => whnf); try simp only [gO, gWe, ne_eq, Nat.reduceEqDiff, not_false_eq_true, true_or, or_true, true_and])) | (refine ⟨by omega, ?_⟩; (conv => whnf); try simp only [gO, gWe, ne_eq, Nat.reduceEqDiff, not_false_eq_true, true_or, or_true, true_and]) | (refine ⟨fun hb => ?_, ?_⟩ <;> first | (exfalso; omega; done) | exact absurd True.intro hb | ((conv => whnf); try simp only [gO, gWe, ne_eq, Nat.reduceEqDiff, not_false_eq_true, true_or, or_true, true_and])) | fail)
        refine r_85n (by omega) hW i0 i1 ?_
        (conv => whnf); try simp only [gO, gWe, ne_eq, Nat.reduceEqDiff, not_false_eq_true, true_or, or_true, true_and]
        repeat' (first | exact True.intro | (refine ⟨fun hb => ?_, fun hb => ?_⟩ <;> first | (exfalso; omega; done) | exact absurd True.intro hb | ((conv => whnf); try simp only [gO, gWe, ne_eq, Nat.reduceEqDiff, not_false_eq_true, true_or, or_true, true_and])) | (refine ⟨by omega, ?_⟩; (conv => whnf); try simp only [gO, gWe, ne_eq, Nat.reduceEqDiff, not_false_eq_true, true_or, or_true, true_and]) | (refine ⟨fun hb => ?_, ?_⟩ <;> first | (exfalso; omega; done) | exact absurd True.intro hb | ((conv => whnf); try simp only [gO, gWe, ne_eq, Nat.reduceEqDiff, not_false_eq_true, true_or, or_true, true_and])) | fail)
        refine r_102n (by omega) hW i0 i1 ?_
        (conv => whnf); try simp only [gO, gWe, ne_eq, Nat.reduceEqDiff, not_false_eq_true, true_or, or_true, true_and]
        repeat' (first | exact True.intro | (refine ⟨fun hb => ?_, fun hb => ?_⟩ <;> first | (exfalso; omega; done) | exact absurd True.intro hb | ((conv => whnf); try simp only [gO, gWe, ne_eq, Nat.reduceEqDiff, not_false_eq_true, true_or, or_true, true_and])) | (refine ⟨by omega, ?_⟩; (conv => whnf); try simp only [gO, gWe, ne_eq, Nat.reduceEqDiff, not_false_eq_true, true_or, or_true, true_and]) | (refine ⟨fun hb => ?_, ?_⟩ <;> first | (exfalso; omega; done) | exact absurd True.intro hb | ((conv => whnf); try simp only [gO, gWe, ne_eq, Nat.reduceEqDiff, not_false_eq_true, true_or, or_true, true_and])) | fail)
        refine r_102n (by omega) hW i0 i1 ?_
        (conv => whnf); try simp only [gO, gWe, ne_eq, Nat.reduceEqDiff, not_false_eq_true, true_or, or_true, true_and]
        repeat' (first | exact True.intro | (refine ⟨fun hb => ?_, fun hb => ?_⟩ <;> first | (exfalso; omega; done) | exact absurd True.intro hb | ((conv => whnf); try simp only [gO, gWe, ne_eq, Nat.reduceEqDiff, not_false_eq_true, true_or, or_true, true_and])) | (refine ⟨by omega, ?_⟩; (conv => whnf); try simp only [gO, gWe, ne_eq, Nat.reduceEqDiff, not_false_eq_true, true_or, or_true, true_and]) | (refine ⟨fun hb => ?_, ?_⟩ <;> first | (exfalso; omega; done) | exact absurd True.intro hb | ((conv => whnf); try simp only [gO, gWe, ne_eq, Nat.reduceEqDiff, not_false_eq_true, true_or, or_true, true_and])) | fail)
        exact ih _
      · rw [if_neg c] at ih
        refine gB_gG [167] 300 ?_
        (conv => whnf); try simp only [gO, gWe, ne_eq, Nat.reduceEqDiff, not_false_eq_true, true_or, or_true, true_and]
        repeat' (first | exact ih _ | (refine r_85n (by omega) hW i0 i1 ?_; (conv => whnf); try simp only [gO, gWe, ne_eq, Nat.reduceEqDiff, not_false_eq_true, true_or, or_true, true_and]) | (refine r_102n (by omega) hW i0 i1 ?_; (conv => whnf); try simp only [gO, gWe, ne_eq, Nat.reduceEqDiff, not_false_eq_true, true_or, or_true, true_and]) | exact True.intro | (refine ⟨fun hb => ?_, fun hb => ?_⟩ <;> first | (exfalso; omega; done) | exact absurd True.intro hb | exact absurd rfl hb | ((conv => whnf); try simp only [gO, gWe, ne_eq, Nat.reduceEqDiff, not_false_eq_true, true_or, or_true, true_and])) | (refine ⟨by omega, ?_⟩; (conv => whnf); try simp only [gO, gWe, ne_eq, Nat.reduceEqDiff, not_false_eq_true, true_or, or_true, true_and]) | (refine ⟨fun hb => ?_, ?_⟩ <;> first | (exfalso; omega; done) | exact absurd True.intro hb | exact absurd rfl hb | ((conv => whnf); try simp only [gO, gWe, ne_eq, Nat.reduceEqDiff, not_false_eq_true, true_or, or_true, true_and])) | fail)
    · have f := fin x12
      clear fin bl br rv by'
      refine gB_gG [259] 300 ?_
      (conv => whnf); try simp only [gO, gWe, ne_eq, Nat.reduceEqDiff, not_false_eq_true, true_or, or_true, true_and]
      repeat' (first | exact True.intro | (refine ⟨fun hb => ?_, fun hb => ?_⟩ <;> first | (exfalso; omega; done) | exact absurd True.intro hb | ((conv => whnf); try simp only [gO, gWe, ne_eq, Nat.reduceEqDiff, not_false_eq_true, true_or, or_true, true_and])) | (refine ⟨by omega, ?_⟩; (conv => whnf); try simp only [gO, gWe, ne_eq, Nat.reduceEqDiff, not_false_eq_true, true_or, or_true, true_and]) | (refine ⟨fun hb => ?_, ?_⟩ <;> first | (exfalso; omega; done) | exact absurd True.intro hb | ((conv => whnf); try simp only [gO, gWe, ne_eq, Nat.reduceEqDiff, not_false_eq_true, true_or, or_true, true_and])) | fail)
      exact f
  clear fin
  -- the four sides
  have lpA : ∀ i : Int, 0 ≤ i → i ≤ (μ 1 0) → ∀ x11 x12 : GV, gG g_T g_F (gCall g_T g_F sN sX d) sN sX (g_T 131) Q 34 [gR 0, gR 61, gR 62, gI (μ 1 0), gI 1, gI g, gI (bMn (μ 34) (μ 3) g i.toNat), gI (bMx (xRt μ) (μ 3) g i.toNat), gI (bMn (μ 13) (μ 3) g i.toNat), gI (bMx (μ 13) (μ 3) g i.toNat), gI i, x11, x12] [] g_SH μ 0 0 := by
    refine g_up (fun i i0 i1 ih x11 x12 => ?_) (fun x11 x12 => ?_)
    · have b1 := bl i i0 i1
      have b2 := br i i0 i1
      have b3 := rv i i1
      have b5 := hw i i0 i1
      rw [bMn_s i0, bMx_s i0, bMn_s i0, bMx_s i0] at ih
      generalize bMn (μ 34) (μ 3) g i.toNat = a0 at *
      generalize bMx (xRt μ) (μ 3) g i.toNat = a1 at *
      generalize bMn (μ 13) (μ 3) g i.toNat = a2 at *
      generalize bMx (μ 13) (μ 3) g i.toNat = a3 at *
      rw [← b5.2, b3, ← b5.1] at ih
      clear lpB bl br rv by'
      by_cases c : (μ 62) i = g
      · rw [if_pos c, if_pos c, if_pos c, if_pos c] at ih
        by_cases c0 : (μ 34) i < a0
        · rw [if_pos c0] at ih
          by_cases c1 : a1 < (μ 34) i + (μ 61) i
          · rw [if_pos c1] at ih
            by_cases c2 : (μ 13) i < a2
            · rw [if_pos c2] at ih
              by_cases c3 : a3 < (μ 13) i
              · rw [if_pos c3] at ih
                refine gB_gG [34] 300 ?_
                (conv => whnf); try simp only [gO, gWe, ne_eq, Nat.reduceEqDiff, not_false_eq_true, true_or, or_true, true_and]
                repeat' (first | exact ih _ _ | (refine r_85n (by omega) hW i0 i1 ?_; (conv => whnf); try simp only [gO, gWe, ne_eq, Nat.reduceEqDiff, not_false_eq_true, true_or, or_true, true_and]) | (refine r_102n (by omega) hW i0 i1 ?_; (conv => whnf); try simp only [gO, gWe, ne_eq, Nat.reduceEqDiff, not_false_eq_true, true_or, or_true, true_and]) | exact True.intro | (refine ⟨fun hb => ?_, fun hb => ?_⟩ <;> first | (exfalso; omega; done) | exact absurd True.intro hb | exact absurd rfl hb | ((conv => whnf); try simp only [gO, gWe, ne_eq, Nat.reduceEqDiff, not_false_eq_true, true_or, or_true, true_and])) | (refine ⟨by omega, ?_⟩; (conv => whnf); try simp only [gO, gWe, ne_eq, Nat.reduceEqDiff, not_false_eq_true, true_or, or_true, true_and]) | (refine ⟨fun hb => ?_, ?_⟩ <;> first | (exfalso; omega; done) | exact absurd True.intro hb | exact absurd rfl hb | ((conv => whnf); try simp only [gO, gWe, ne_eq, Nat.reduceEqDiff, not_false_eq_true, true_or, or_true, true_and])) | fail)
              · rw [if_neg c3] at ih
                refine gB_gG [34] 300 ?_
                (conv => whnf); try simp only [gO, gWe, ne_eq, Nat.reduceEqDiff, not_false_eq_true, true_or, or_true, true_and]
                repeat' (first | exact ih _ _ | (refine r_85n (by omega) hW i0 i1 ?_; (conv => whnf); try simp only [gO, gWe, ne_eq, Nat.reduceEqDiff, not_false_eq_true, true_or, or_true, true_and]) | (refine r_102n (by omega) hW i0 i1 ?_; (conv => whnf); try simp only [gO, gWe, ne_eq, Nat.reduceEqDiff, not_false_eq_true, true_or, or_true, true_and]) | exact True.intro | (refine ⟨fun hb => ?_, fun hb => ?_⟩ <;> first | (exfalso; omega; done) | exact absurd True.intro hb | exact absurd rfl hb | ((conv => whnf); try simp only [gO, gWe, ne_eq, Nat.reduceEqDiff, not_false_eq_true, true_or, or_true, true_and])) | (refine ⟨by omega, ?_⟩; (conv => whnf); try simp only [gO, gWe, ne_eq, Nat.reduceEqDiff, not_false_eq_true, true_or, or_true, true_and]) | (refine ⟨fun hb => ?_, ?_⟩ <;> first | (exfalso; omega; done) | exact absurd True.intro hb | exact absurd rfl hb | ((conv => whnf); try simp only [gO, gWe, ne_eq, Nat.reduceEqDiff, not_false_eq_true, true_or, or_true, true_and])) | fail)
            · rw [if_neg c2] at ih
              by_cases c3 : a3 < (μ 13) i
              · rw [if_pos c3] at ih
                refine gB_gG [34] 300 ?_
                (conv => whnf); try simp only [gO, gWe, ne_eq, Nat.reduceEqDiff, not_false_eq_true, true_or, or_true, true_and]
                repeat' (first | exact ih _ _ | (refine r_85n (by omega) hW i0 i1 ?_; (conv => whnf); try simp only [gO, gWe, ne_eq, Nat.reduceEqDiff, not_false_eq_true, true_or, or_true, true_and]) | (refine r_102n (by omega) hW i0 i1 ?_; (conv => whnf); try simp only [gO, gWe, ne_eq, Nat.reduceEqDiff, not_false_eq_true, true_or, or_true, true_and]) | exact True.intro | (refine ⟨fun hb => ?_, fun hb => ?_⟩ <;> first | (exfalso; omega; done) | exact absurd True.intro hb | exact absurd rfl hb | ((conv => whnf); try simp only [gO, gWe, ne_eq, Nat.reduceEqDiff, not_false_eq_true, true_or, or_true, true_and])) | (refine ⟨by omega, ?_⟩; (conv => whnf); try simp only [gO, gWe, ne_eq, Nat.reduceEqDiff, not_false_eq_true, true_or, or_true, true_and]) | (refine ⟨fun hb => ?_, ?_⟩ <;> first | (exfalso; omega; done) | exact absurd True.intro hb | exact absurd rfl hb | ((conv => whnf); try simp only [gO, gWe, ne_eq, Nat.reduceEqDiff, not_false_eq_true, true_or, or_true, true_and])) | fail)
              · rw [if_neg c3] at ih
                refine gB_gG [34] 300 ?_
                (conv => whnf); try simp only [gO, gWe, ne_eq, Nat.reduceEqDiff, not_false_eq_true, true_or, or_true, true_and]
                repeat' (first | exact ih _ _ | (refine r_85n (by omega) hW i0 i1 ?_; (conv => whnf); try simp only [gO, gWe, ne_eq, Nat.reduceEqDiff, not_false_eq_true, true_or, or_true, true_and]) | (refine r_102n (by omega) hW i0 i1 ?_; (conv => whnf); try simp only [gO, gWe, ne_eq, Nat.reduceEqDiff, not_false_eq_true, true_or, or_true, true_and]) | exact True.intro | (refine ⟨fun hb => ?_, fun hb => ?_⟩ <;> first | (exfalso; omega; done) | exact absurd True.intro hb | exact absurd rfl hb | ((conv => whnf); try simp only [gO, gWe, ne_eq, Nat.reduceEqDiff, not_false_eq_true, true_or, or_true, true_and])) | (refine ⟨by omega, ?_⟩; (conv => whnf); try simp only [gO, gWe, ne_eq, Nat.reduceEqDiff, not_false_eq_true, true_or, or_true, true_and]) | (refine ⟨fun hb => ?_, ?_⟩ <;> first | (exfalso; omega; done) | exact absurd True.intro hb | exact absurd rfl hb | ((conv => whnf); try simp only [gO, gWe, ne_eq, Nat.reduceEqDiff, not_false_eq_true, true_or, or_true, true_and])) | fail)
          · rw [if_neg c1] at ih
            by_cases c2 : (μ 13) i < a2
            · rw [if_pos c2] at ih
              by_cases c3 : a3 < (μ 13) i
              · rw [if_pos c3] at ih
                refine gB_gG [34] 300 ?_
                (conv => whnf); try simp only [gO, gWe, ne_eq, Nat.reduceEqDiff, not_false_eq_true, true_or, or_true, true_and]
                repeat' (first | exact ih _ _ | (refine r_85n (by omega) hW i0 i1 ?_; (conv => whnf); try simp only [gO, gWe, ne_eq, Nat.reduceEqDiff, not_false_eq_true, true_or, or_true, true_and]) | (refine r_102n (by omega) hW i0 i1 ?_; (conv => whnf); try simp only [gO, gWe, ne_eq, Nat.reduceEqDiff, not_false_eq_true, true_or, or_true, true_and]) | exact True.intro | (refine ⟨fun hb => ?_, fun hb => ?_⟩ <;> first | (exfalso; omega; done) | exact absurd True.intro hb | exact absurd rfl hb | ((conv => whnf); try simp only [gO, gWe, ne_eq, Nat.reduceEqDiff, not_false_eq_true, true_or, or_true, true_and])) | (refine ⟨by omega, ?_⟩; (conv => whnf); try simp only [gO, gWe, ne_eq, Nat.reduceEqDiff, not_false_eq_true, true_or, or_true, true_and]) | (refine ⟨fun hb => ?_, ?_⟩ <;> first | (exfalso; omega; done) | exact absurd True.intro hb | exact absurd rfl hb | ((conv => whnf); try simp only [gO, gWe, ne_eq, Nat.reduceEqDiff, not_false_eq_true, true_or, or_true, true_and])) | fail)
              · rw [if_neg c3] at ih
                refine gB_gG [34] 300 ?_
                (conv => whnf); try simp only [gO, gWe, ne_eq, Nat.reduceEqDiff, not_false_eq_true, true_or, or_true, true_and]
                repeat' (first | exact ih _ _ | (refine r_85n (by omega) hW i0 i1 ?_; (conv => whnf); try simp only [gO, gWe, ne_eq, Nat.reduceEqDiff, not_false_eq_true, true_or, or_true, true_and]) | (refine r_102n (by omega) hW i0 i1 ?_; (conv => whnf); try simp only [gO, gWe, ne_eq, Nat.reduceEqDiff, not_false_eq_true, true_or, or_true, true_and]) | exact True.intro | (refine ⟨fun hb => ?_, fun hb => ?_⟩ <;> first | (exfalso; omega; done) | exact absurd True.intro hb | exact absurd rfl hb | ((conv => whnf); try simp only [gO, gWe, ne_eq, Nat.reduceEqDiff, not_false_eq_true, true_or, or_true, true_and])) | (refine ⟨by omega, ?_⟩; (conv => whnf); try simp only [gO, gWe, ne_eq, Nat.reduceEqDiff, not_false_eq_true, true_or, or_true, true_and]) | (refine ⟨fun hb => ?_, ?_⟩ <;> first | (exfalso; omega; done) | exact absurd True.intro hb | exact absurd rfl hb | ((conv => whnf); try simp only [gO, gWe, ne_eq, Nat.reduceEqDiff, not_false_eq_true, true_or, or_true, true_and])) | fail)
            · rw [if_neg c2] at ih
              by_cases c3 : a3 < (μ 13) i
              · rw [if_pos c3] at ih
                refine gB_gG [34] 300 ?_
                (conv => whnf); try simp only [gO, gWe, ne_eq, Nat.reduceEqDiff, not_false_eq_true, true_or, or_true, true_and]
                repeat' (first | exact ih _ _ | (refine r_85n (by omega) hW i0 i1 ?_; (conv => whnf); try simp only [gO, gWe, ne_eq, Nat.reduceEqDiff, not_false_eq_true, true_or, or_true, true_and]) | (refine r_102n (by omega) hW i0 i1 ?_; (conv => whnf); try simp only [gO, gWe, ne_eq, Nat.reduceEqDiff, not_false_eq_true, true_or, or_true, true_and]) | exact True.intro | (refine ⟨fun hb => ?_, fun hb => ?_⟩ <;> first | (exfalso; omega; done) | exact absurd True.intro hb | exact absurd rfl hb | ((conv => whnf); try simp only [gO, gWe, ne_eq, Nat.reduceEqDiff, not_false_eq_true, true_or, or_true, true_and])) | (refine ⟨by omega, ?_⟩; (conv => whnf); try simp only [gO, gWe, ne_eq, Nat.reduceEqDiff, not_false_eq_true, true_or, or_true, true_and]) | (refine ⟨fun hb => ?_, ?_⟩ <;> first | (exfalso; omega; done) | exact absurd True.intro hb | exact absurd rfl hb | ((conv => whnf); try simp only [gO, gWe, ne_eq, Nat.reduceEqDiff, not_false_eq_true, true_or, or_true, true_and])) | fail)
              · rw [if_neg c3] at ih
                refine gB_gG [34] 300 ?_
                (conv => whnf); try simp only [gO, gWe, ne_eq, Nat.reduceEqDiff, not_false_eq_true, true_or, or_true, true_and]
                repeat' (first | exact ih _ _ | (refine r_85n (by omega) hW i0 i1 ?_; (conv => whnf); try simp only [gO, gWe, ne_eq, Nat.reduceEqDiff, not_false_eq_true, true_or, or_true, true_and]) | (refine r_102n (by omega) hW i0 i1 ?_; (conv => whnf); try simp only [gO, gWe, ne_eq, Nat.reduceEqDiff, not_false_eq_true, true_or, or_true, true_and]) | exact True.intro | (refine ⟨fun hb => ?_, fun hb => ?_⟩ <;> first | (exfalso; omega; done) | exact absurd True.intro hb | exact absurd rfl hb | ((conv => whnf); try simp only [gO, gWe, ne_eq, Nat.reduceEqDiff, not_false_eq_true, true_or, or_true, true_and])) | (refine ⟨by omega, ?_⟩; (conv => whnf); try simp only [gO, gWe, ne_eq, Nat.reduceEqDiff, not_false_eq_true, true_or, or_true, true_and]) | (refine ⟨fun hb => ?_, ?_⟩ <;> first | (exfalso; omega; done) | exact absurd True.intro hb | exact absurd rfl hb | ((conv => whnf); try simp only [gO, gWe, ne_eq, Nat.reduceEqDiff, not_false_eq_true, true_or, or_true, true_and])) | fail)
        · rw [if_neg c0] at ih
          by_cases c1 : a1 < (μ 34) i + (μ 61) i
          · rw [if_pos c1] at ih
            by_cases c2 : (μ 13) i < a2
            · rw [if_pos c2] at ih
              by_cases c3 : a3 < (μ 13) i
              · rw [if_pos c3] at ih
                refine gB_gG [34] 300 ?_
                (conv => whnf); try simp only [gO, gWe, ne_eq, Nat.reduceEqDiff, not_false_eq_true, true_or, or_true, true_and]
                repeat' (first | exact ih _ _ | (refine r_85n (by omega) hW i0 i1 ?_; (conv => whnf); try simp only [gO, gWe, ne_eq, Nat.reduceEqDiff, not_false_eq_true, true_or, or_true, true_and]) | (refine r_102n (by omega) hW i0 i1 ?_; (conv => whnf); try simp only [gO, gWe, ne_eq, Nat.reduceEqDiff, not_false_eq_true, true_or, or_true, true_and]) | exact True.intro | (refine ⟨fun hb => ?_, fun hb => ?_⟩ <;> first | (exfalso; omega; done) | exact absurd True.intro hb | exact absurd rfl hb | ((conv => whnf); try simp only [gO, gWe, ne_eq, Nat.reduceEqDiff, not_false_eq_true, true_or, or_true, true_and])) | (refine ⟨by omega, ?_⟩; (conv => whnf); try simp only [gO, gWe, ne_eq, Nat.reduceEqDiff, not_false_eq_true, true_or, or_true, true_and]) | (refine ⟨fun hb => ?_, ?_⟩ <;> first | (exfalso; omega; done) | exact absurd True.intro hb | exact absurd rfl hb | ((conv => whnf); try simp only [gO, gWe, ne_eq, Nat.reduceEqDiff, not_false_eq_true, true_or, or_true, true_and])) | fail)
              · rw [if_neg c3] at ih
                refine gB_gG [34] 300 ?_
                (conv => whnf); try simp only [gO, gWe, ne_eq, Nat.reduceEqDiff, not_false_eq_true, true_or, or_true, true_and]
                repeat' (first | exact ih _ _ | (refine r_85n (by omega) hW i0 i1 ?_; (conv => whnf); try simp only [gO, gWe, ne_eq, Nat.reduceEqDiff, not_false_eq_true, true_or, or_true, true_and]) | (refine r_102n (by omega) hW i0 i1 ?_; (conv => whnf); try simp only [gO, gWe, ne_eq, Nat.reduceEqDiff, not_false_eq_true, true_or, or_true, true_and]) | exact True.intro | (refine ⟨fun hb => ?_, fun hb => ?_⟩ <;> first | (exfalso; omega; done) | exact absurd True.intro hb | exact absurd rfl hb | ((conv => whnf); try simp only [gO, gWe, ne_eq, Nat.reduceEqDiff, not_false_eq_true, true_or, or_true, true_and])) | (refine ⟨by omega, ?_⟩; (conv => whnf); try simp only [gO, gWe, ne_eq, Nat.reduceEqDiff, not_false_eq_true, true_or, or_true, true_and]) | (refine ⟨fun hb => ?_, ?_⟩ <;> first | (exfalso; omega; done) | exact absurd True.intro hb | exact absurd rfl hb | ((conv => whnf); try simp only [gO, gWe, ne_eq, Nat.reduceEqDiff, not_false_eq_true, true_or, or_true, true_and])) | fail)
            · rw [if_neg c2] at ih
              by_cases c3 : a3 < (μ 13) i
              · rw [if_pos c3] at ih
                refine gB_gG [34] 300 ?_
                (conv => whnf); try simp only [gO, gWe, ne_eq, Nat.reduceEqDiff, not_false_eq_true, true_or, or_true, true_and]
                repeat' (first | exact ih _ _ | (refine r_85n (by omega) hW i0 i1 ?_; (conv => whnf); try simp only [gO, gWe, ne_eq, Nat.reduceEqDiff, not_false_eq_true, true_or, or_true, true_and]) | (refine r_102n (by omega) hW i0 i1 ?_; (conv => whnf); try simp only [gO, gWe, ne_eq, Nat.reduceEqDiff, not_false_eq_true, true_or, or_true, true_and]) | exact True.intro | (refine ⟨fun hb => ?_, fun hb => ?_⟩ <;> first | (exfalso; omega; done) | exact absurd True.intro hb | exact absurd rfl hb | ((conv => whnf); try simp only [gO, gWe, ne_eq, Nat.reduceEqDiff, not_false_eq_true, true_or, or_true, true_and])) | (refine ⟨by omega, ?_⟩; (conv => whnf); try simp only [gO, gWe, ne_eq, Nat.reduceEqDiff, not_false_eq_true, true_or, or_true, true_and]) | (refine ⟨fun hb => ?_, ?_⟩ <;> first | (exfalso; omega; done) | exact absurd True.intro hb | exact absurd rfl hb | ((conv => whnf); try simp only [gO, gWe, ne_eq, Nat.reduceEqDiff, not_false_eq_true, true_or, or_true, true_and])) | fail)
              · rw [if_neg c3] at ih
                refine gB_gG [34] 300 ?_
                (conv => whnf); try simp only [gO, gWe, ne_eq, Nat.reduceEqDiff, not_false_eq_true, true_or, or_true, true_and]
                repeat' (first | exact ih _ _ | (refine r_85n (by omega) hW i0 i1 ?_; (conv => whnf); try simp only [gO, gWe, ne_eq, Nat.reduceEqDiff, not_false_eq_true, true_or, or_true, true_and]) | (refine r_102n (by omega) hW i0 i1 ?_; (conv => whnf); try simp only [gO, gWe, ne_eq, Nat.reduceEqDiff, not_false_eq_true, true_or, or_true, true_and]) | exact True.intro | (refine ⟨fun hb => ?_, fun hb => ?_⟩ <;> first | (exfalso; omega; done) | exact absurd True.intro hb | exact absurd rfl hb | ((conv => whnf); try simp only [gO, gWe, ne_eq, Nat.reduceEqDiff, not_false_eq_true, true_or, or_true, true_and])) | (refine ⟨by omega, ?_⟩; (conv => whnf); try simp only [gO, gWe, ne_eq, Nat.reduceEqDiff, not_false_eq_true, true_or, or_true, true_and]) | (refine ⟨fun hb => ?_, ?_⟩ <;> first | (exfalso; omega; done) | exact absurd True.intro hb | exact absurd rfl hb | ((conv => whnf); try simp only [gO, gWe, ne_eq, Nat.reduceEqDiff, not_false_eq_true, true_or, or_true, true_and])) | fail)
          · rw [if_neg c1] at ih
            by_cases c2 : (μ 13) i < a2
            · rw [if_pos c2] at ih
              by_cases c3 : a3 < (μ 13) i
              · rw [if_pos c3] at ih
                refine gB_gG [34] 300 ?_
                (conv => whnf); try simp only [gO, gWe, ne_eq, Nat.reduceEqDiff, not_false_eq_true, true_or, or_true, true_and]
                repeat' (first | exact ih _ _ | (refine r_85n (by omega) hW i0 i1 ?_; (conv => whnf); try simp only [gO, gWe, ne_eq, Nat.reduceEqDiff, not_false_eq_true, true_or, or_true, true_and]) | (refine r_102n (by omega) hW i0 i1 ?_; (conv => whnf); try simp only [gO, gWe, ne_eq, Nat.reduceEqDiff, not_false_eq_true, true_or, or_true, true_and]) | exact True.intro | (refine ⟨fun hb => ?_, fun hb => ?_⟩ <;> first | (exfalso; omega; done) | exact absurd True.intro hb | exact absurd rfl hb | ((conv => whnf); try simp only [gO, gWe, ne_eq, Nat.reduceEqDiff, not_false_eq_true, true_or, or_true, true_and])) | (refine ⟨by omega, ?_⟩; (conv => whnf); try simp only [gO, gWe, ne_eq, Nat.reduceEqDiff, not_false_eq_true, true_or, or_true, true_and]) | (refine ⟨fun hb => ?_, ?_⟩ <;> first | (exfalso; omega; done) | exact absurd True.intro hb | exact absurd rfl hb | ((conv => whnf); try simp only [gO, gWe, ne_eq, Nat.reduceEqDiff, not_false_eq_true, true_or, or_true, true_and])) | fail)
              · rw [if_neg c3] at ih
                refine gB_gG [34] 300 ?_
                (conv => whnf); try simp only [gO, gWe, ne_eq, Nat.reduceEqDiff, not_false_eq_true, true_or, or_true, true_and]
                repeat' (first | exact ih _ _ | (refine r_85n (by omega) hW i0 i1 ?_; (conv => whnf); try simp only [gO, gWe, ne_eq, Nat.reduceEqDiff, not_false_eq_true, true_or, or_true, true_and]) | (refine r_102n (by omega) hW i0 i1 ?_; (conv => whnf); try simp only [gO, gWe, ne_eq, Nat.reduceEqDiff, not_false_eq_true, true_or, or_true, true_and]) | exact True.intro | (refine ⟨fun hb => ?_, fun hb => ?_⟩ <;> first | (exfalso; omega; done) | exact absurd True.intro hb | exact absurd rfl hb | ((conv => whnf); try simp only [gO, gWe, ne_eq, Nat.reduceEqDiff, not_false_eq_true, true_or, or_true, true_and])) | (refine ⟨by omega, ?_⟩; (conv => whnf); try simp only [gO, gWe, ne_eq, Nat.reduceEqDiff, not_false_eq_true, true_or, or_true, true_and]) | (refine ⟨fun hb => ?_, ?_⟩ <;> first | (exfalso; omega; done) | exact absurd True.intro hb | exact absurd rfl hb | ((conv => whnf); try simp only [gO, gWe, ne_eq, Nat.reduceEqDiff, not_false_eq_true, true_or, or_true, true_and])) | fail)
            · rw [if_neg c2] at ih
              by_cases c3 : a3 < (μ 13) i
              · rw [if_pos c3] at ih
                refine gB_gG [34] 300 ?_
                (conv => whnf); try simp only [gO, gWe, ne_eq, Nat.reduceEqDiff, not_false_eq_true, true_or, or_true, true_and]
                repeat' (first | exact ih _ _ | (refine r_85n (by omega) hW i0 i1 ?_; (conv => whnf); try simp only [gO, gWe, ne_eq, Nat.reduceEqDiff, not_false_eq_true, true_or, or_true, true_and]) | (refine r_102n (by omega) hW i0 i1 ?_; (conv => whnf); try simp only [gO, gWe, ne_eq, Nat.reduceEqDiff, not_false_eq_true, true_or, or_true, true_and]) | exact True.intro | (refine ⟨fun hb => ?_, fun hb => ?_⟩ <;> first | (exfalso; omega; done) | exact absurd True.intro hb | exact absurd rfl hb | ((conv => whnf); try simp only [gO, gWe, ne_eq, Nat.reduceEqDiff, not_false_eq_true, true_or, or_true, true_and])) | (refine ⟨by omega, ?_⟩; (conv => whnf); try simp only [gO, gWe, ne_eq, Nat.reduceEqDiff, not_false_eq_true, true_or, or_true, true_and]) | (refine ⟨fun hb => ?_, ?_⟩ <;> first | (exfalso; omega; done) | exact absurd True.intro hb | exact absurd rfl hb | ((conv => whnf); try simp only [gO, gWe, ne_eq, Nat.reduceEqDiff, not_false_eq_true, true_or, or_true, true_and])) | fail)
              · rw [if_neg c3] at ih
                refine gB_gG [34] 300 ?_
                (conv => whnf); try simp only [gO, gWe, ne_eq, Nat.reduceEqDiff, not_false_eq_true, true_or, or_true, true_and]
                repeat' (first | exact ih _ _ | (refine r_85n (by omega) hW i0 i1 ?_; (conv => whnf); try simp only [gO, gWe, ne_eq, Nat.reduceEqDiff, not_false_eq_true, true_or, or_true, true_and]) | (refine r_102n (by omega) hW i0 i1 ?_; (conv => whnf); try simp only [gO, gWe, ne_eq, Nat.reduceEqDiff, not_false_eq_true, true_or, or_true, true_and]) | exact True.intro | (refine ⟨fun hb => ?_, fun hb => ?_⟩ <;> first | (exfalso; omega; done) | exact absurd True.intro hb | exact absurd rfl hb | ((conv => whnf); try simp only [gO, gWe, ne_eq, Nat.reduceEqDiff, not_false_eq_true, true_or, or_true, true_and])) | (refine ⟨by omega, ?_⟩; (conv => whnf); try simp only [gO, gWe, ne_eq, Nat.reduceEqDiff, not_false_eq_true, true_or, or_true, true_and]) | (refine ⟨fun hb => ?_, ?_⟩ <;> first | (exfalso; omega; done) | exact absurd True.intro hb | exact absurd rfl hb | ((conv => whnf); try simp only [gO, gWe, ne_eq, Nat.reduceEqDiff, not_false_eq_true, true_or, or_true, true_and])) | fail)
      · rw [if_neg c, if_neg c, if_neg c, if_neg c] at ih
        refine gB_gG [34] 300 ?_
        (conv => whnf); try simp only [gO, gWe, ne_eq, Nat.reduceEqDiff, not_false_eq_true, true_or, or_true, true_and]
        repeat' (first | exact ih _ _ | (refine r_85n (by omega) hW i0 i1 ?_; (conv => whnf); try simp only [gO, gWe, ne_eq, Nat.reduceEqDiff, not_false_eq_true, true_or, or_true, true_and]) | (refine r_102n (by omega) hW i0 i1 ?_; (conv => whnf); try simp only [gO, gWe, ne_eq, Nat.reduceEqDiff, not_false_eq_true, true_or, or_true, true_and]) | exact True.intro | (refine ⟨fun hb => ?_, fun hb => ?_⟩ <;> first | (exfalso; omega; done) | exact absurd True.intro hb | exact absurd rfl hb | ((conv => whnf); try simp only [gO, gWe, ne_eq, Nat.reduceEqDiff, not_false_eq_true, true_or, or_true, true_and])) | (refine ⟨by omega, ?_⟩; (conv => whnf); try simp only [gO, gWe, ne_eq, Nat.reduceEqDiff, not_false_eq_true, true_or, or_true, true_and]) | (refine ⟨fun hb => ?_, ?_⟩ <;> first | (exfalso; omega; done) | exact absurd True.intro hb | exact absurd rfl hb | ((conv => whnf); try simp only [gO, gWe, ne_eq, Nat.reduceEqDiff, not_false_eq_true, true_or, or_true, true_and])) | fail)
    · have f := lpB 0 (by omega) (by omega) x12
      clear lpB bl br rv by'
      rw [show xIn (μ 13) (μ 34) (xRt μ) (μ 3) (bMn (μ 34) (μ 3) g (μ 1 0).toNat) (bMx (xRt μ) (μ 3) g (μ 1 0).toNat) (bMn (μ 13) (μ 3) g (μ 1 0).toNat) (bMx (μ 13) (μ 3) g (μ 1 0).toNat) g (0 : Int).toNat = 0 from rfl] at f
      refine gB_gG [167] 300 ?_
      (conv => whnf); try simp only [gO, gWe, ne_eq, Nat.reduceEqDiff, not_false_eq_true, true_or, or_true, true_and]
      repeat' (first | exact True.intro | (refine ⟨fun hb => ?_, fun hb => ?_⟩ <;> first | (exfalso; omega; done) | exact absurd True.intro hb | ((conv => whnf); try simp only [gO, gWe, ne_eq, Nat.reduceEqDiff, not_false_eq_true, true_or, or_true, true_and])) | (refine ⟨by omega, ?_⟩; (conv => whnf); try simp only [gO, gWe, ne_eq, Nat.reduceEqDiff, not_false_eq_true, true_or, or_true, true_and]) | (refine ⟨fun hb => ?_, ?_⟩ <;> first | (exfalso; omega; done) | exact absurd True.intro hb | ((conv => whnf); try simp only [gO, gWe, ne_eq, Nat.reduceEqDiff, not_false_eq_true, true_or, or_true, true_and])) | fail)
      exact f
  have f := lpA 0 (by omega) (by omega) x11 x12
  clear lpA lpB bl br rv by'
  rw [show bMn (μ 34) (μ 3) g (0 : Int).toNat = 100000 from rfl, show bMx (xRt μ) (μ 3) g (0 : Int).toNat = -1 from rfl, show bMn (μ 13) (μ 3) g (0 : Int).toNat = 100000 from rfl, show bMx (μ 13) (μ 3) g (0 : Int).toNat = -1 from rfl] at f
  refine gB_gG [34] 300 ?_
  (conv => whnf); try simp only [gO, gWe, ne_eq, Nat.reduceEqDiff, not_false_eq_true, true_or, or_true, true_and]
  repeat' (first | exact True.intro | (refine ⟨fun hb => ?_, fun hb => ?_⟩ <;> first | (exfalso; omega; done) | exact absurd True.intro hb | ((conv => whnf); try simp only [gO, gWe, ne_eq, Nat.reduceEqDiff, not_false_eq_true, true_or, or_true, true_and])) | (refine ⟨by omega, ?_⟩; (conv => whnf); try simp only [gO, gWe, ne_eq, Nat.reduceEqDiff, not_false_eq_true, true_or, or_true, true_and]) | (refine ⟨fun hb => ?_, ?_⟩ <;> first | (exfalso; omega; done) | exact absurd True.intro hb | ((conv => whnf); try simp only [gO, gWe, ne_eq, Nat.reduceEqDiff, not_false_eq_true, true_or, or_true, true_and])) | fail)
  exact f
theorem r_131 {D : Nat} (hD : 34 ≤ D) {μ : MU} {Q : GQ} (hW : iW μ) (hw : hLw μ) (h : Q (some (gI (1))) g_SH μ) : gCall g_T g_F sN sX D 131 [gR 0, gR 61, gR 62, gI (μ 1 0)] g_SH μ Q := by
  obtain ⟨d, rfl⟩ := gD (show 1 ≤ D by omega)
  have f4 : ∀ x6 x7 x8 x9 x10 x11 x12 : GV, gG g_T g_F (gCall g_T g_F sN sX d) sN sX (g_T 131) Q 6 [gR 0, gR 61, gR 62, gI (μ 1 0), gI 1, gI 4, x6, x7, x8, x9, x10, x11, x12] [] g_SH μ 0 0 := by
    intro x6 x7 x8 x9 x10 x11 x12
    refine gB_gG [] 300 ?_
    (conv => whnf); try simp only [gO, gWe, ne_eq, Nat.reduceEqDiff, not_false_eq_true, true_or, or_true, true_and]
    repeat' (first | exact True.intro | (refine ⟨fun hb => ?_, fun hb => ?_⟩ <;> first | (exfalso; omega; done) | exact absurd True.intro hb | ((conv => whnf); try simp only [gO, gWe, ne_eq, Nat.reduceEqDiff, not_false_eq_true, true_or, or_true, true_and])) | (refine ⟨by omega, ?_⟩; (conv => whnf); try simp only [gO, gWe, ne_eq, Nat.reduceEqDiff, not_false_eq_true, true_or, or_true, true_and]) | (refine ⟨fun hb => ?_, ?_⟩ <;> first | (exfalso; omega; done) | exact absurd True.intro hb | ((conv => whnf); try simp only [gO, gWe, ne_eq, Nat.reduceEqDiff, not_false_eq_true, true_or, or_true, true_and])) | fail)
    refine r_106_z (by omega) hW (Or.inl (by omega)) ?_
    (conv => whnf); try simp only [gO, gWe, ne_eq, Nat.reduceEqDiff, not_false_eq_true, true_or, or_true, true_and]
    repeat' (first | exact True.intro | (refine ⟨fun hb => ?_, fun hb => ?_⟩ <;> first | (exfalso; omega; done) | exact absurd True.intro hb | ((conv => whnf); try simp only [gO, gWe, ne_eq, Nat.reduceEqDiff, not_false_eq_true, true_or, or_true, true_and])) | (refine ⟨by omega, ?_⟩; (conv => whnf); try simp only [gO, gWe, ne_eq, Nat.reduceEqDiff, not_false_eq_true, true_or, or_true, true_and]) | (refine ⟨fun hb => ?_, ?_⟩ <;> first | (exfalso; omega; done) | exact absurd True.intro hb | ((conv => whnf); try simp only [gO, gWe, ne_eq, Nat.reduceEqDiff, not_false_eq_true, true_or, or_true, true_and])) | fail)
    refine r_106_z (by omega) hW (Or.inr (Or.inr (by omega))) ?_
    (conv => whnf); try simp only [gO, gWe, ne_eq, Nat.reduceEqDiff, not_false_eq_true, true_or, or_true, true_and]
    repeat' (first | exact True.intro | (refine ⟨fun hb => ?_, fun hb => ?_⟩ <;> first | (exfalso; omega; done) | exact absurd True.intro hb | ((conv => whnf); try simp only [gO, gWe, ne_eq, Nat.reduceEqDiff, not_false_eq_true, true_or, or_true, true_and])) | (refine ⟨by omega, ?_⟩; (conv => whnf); try simp only [gO, gWe, ne_eq, Nat.reduceEqDiff, not_false_eq_true, true_or, or_true, true_and]) | (refine ⟨fun hb => ?_, ?_⟩ <;> first | (exfalso; omega; done) | exact absurd True.intro hb | ((conv => whnf); try simp only [gO, gWe, ne_eq, Nat.reduceEqDiff, not_false_eq_true, true_or, or_true, true_and])) | fail)
    refine r_107_z (by omega) hW (by omega) ?_
    (conv => whnf); try simp only [gO, gWe, ne_eq, Nat.reduceEqDiff, not_false_eq_true, true_or, or_true, true_and]
    repeat' (first | exact True.intro | (refine ⟨fun hb => ?_, fun hb => ?_⟩ <;> first | (exfalso; omega; done) | exact absurd True.intro hb | ((conv => whnf); try simp only [gO, gWe, ne_eq, Nat.reduceEqDiff, not_false_eq_true, true_or, or_true, true_and])) | (refine ⟨by omega, ?_⟩; (conv => whnf); try simp only [gO, gWe, ne_eq, Nat.reduceEqDiff, not_false_eq_true, true_or, or_true, true_and]) | (refine ⟨fun hb => ?_, ?_⟩ <;> first | (exfalso; omega; done) | exact absurd True.intro hb | ((conv => whnf); try simp only [gO, gWe, ne_eq, Nat.reduceEqDiff, not_false_eq_true, true_or, or_true, true_and])) | fail)
    exact h
  have f3 := r_131g (d := d) (Q := Q) (sN := sN) (sX := sX) (g := 3) (by omega) hW hw (by omega) (by omega) f4
  have f2 := r_131g (d := d) (Q := Q) (sN := sN) (sX := sX) (g := 2) (by omega) hW hw (by omega) (by omega) f3
  have f1 := r_131g (d := d) (Q := Q) (sN := sN) (sX := sX) (g := 1) (by omega) hW hw (by omega) (by omega) f2
  refine gC 300 [6] rfl ?_
  (conv => whnf); try simp only [gO, gWe, ne_eq, Nat.reduceEqDiff, not_false_eq_true, true_or, or_true, true_and]
  exact f1 _ _ _ _ _ _ _
