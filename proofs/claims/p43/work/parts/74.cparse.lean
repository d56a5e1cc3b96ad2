variable {sN : Int} {sX : Int → Int}
/-! the class reads a text -/
def hTx (μ : MU) : Prop := (0 ≤ (μ 36 1) ∧ (μ 36 1) ≤ 100) ∧ ∀ k : Int, 0 ≤ k → k < (μ 36 1) → 32 ≤ (μ 37) k ∧ (μ 37) k ≤ 126
def hPs (μ ν : MU) (q : Int) : Prop := gFr [36] μ ν ∧ ν 36 2 = q ∧ ∀ j : Int, j ≠ 2 → ν 36 j = μ 36 j
theorem hPs.rf {μ : MU} : hPs μ μ (μ 36 2) := ⟨gFr.rf, rfl, fun _ _ => rfl⟩
theorem hPs.tr {μ ν ρ : MU} {p q : Int} (h : hPs μ ν p) (h' : hPs ν ρ q) : hPs μ ρ q := ⟨h.1.tr h'.1, h'.2.1, fun j hj => (h'.2.2 j hj).trans (h.2.2 j hj)⟩
theorem hPs.W {μ ν : MU} {p q : Int} (h : hPs μ ν p) : hPs μ (gW ν 36 2 q) q := ⟨h.1.W (by decide), gWe _ _ _ _, fun j hj => by rw [gWn _ _ _ hj]; exact h.2.2 j hj⟩
theorem hPs.tx {μ ν : MU} {q : Int} (h : hPs μ ν q) (hT : hTx μ) : hTx ν ∧ pHr (ν 37) (ν 36 1) = pHr (μ 37) (μ 36 1) := by
  have e1 : ν 36 1 = μ 36 1 := h.2.2 1 (by decide)
  have e2 : ν 37 = μ 37 := h.1 37 (by decide)
  unfold hTx
  rw [e1, e2]
  exact ⟨hT, rfl⟩
theorem pHr_b {μ : MU} (hT : hTx μ) {p : Int} (p0 : 0 ≤ p) : (p < (μ 36 1) ∧ pHr (μ 37) (μ 36 1) p = (μ 37) p ∧ 32 ≤ (μ 37) p ∧ (μ 37) p ≤ 126) ∨ ((μ 36 1) ≤ p ∧ pHr (μ 37) (μ 36 1) p = 0) := by
  unfold pHr
  by_cases c : p < (μ 36 1)
  · rw [if_pos c]; exact Or.inl ⟨c, rfl, hT.2 p p0 c⟩
  · rw [if_neg c]; exact Or.inr ⟨by omega, rfl⟩
theorem t_72 {D : Nat} (hD : 1 ≤ D) {μ : MU} {Q : GQ} {lo hi p : Int} (hT : hTx μ) (hp : (μ 36 2) = p) (p0 : 0 ≤ p ∧ p ≤ 200) (hlo : 1 ≤ lo) (k1 : (lo ≤ pHr (μ 37) (μ 36 1) p ∧ pHr (μ 37) (μ 36 1) p ≤ hi) → Q (some (gI (pHr (μ 37) (μ 36 1) p - 48))) g_SH (gW μ 36 2 (p + 1))) (k0 : ¬ (lo ≤ pHr (μ 37) (μ 36 1) p ∧ pHr (μ 37) (μ 36 1) p ≤ hi) → Q (some (gI (-1))) g_SH μ) : gCall g_T g_F sN sX D 72 [gR 36, gI lo, gI hi] g_SH μ Q := by
  have T := hT.1
  subst hp
  have e : (μ 36 2) + 1 - 1 = (μ 36 2) := by omega
  rcases pHr_b hT p0.1 with ⟨b1, b2, b3⟩ | ⟨b1, b2⟩
  · rw [b2] at k1 k0
    by_cases c1 : lo ≤ (μ 37) (μ 36 2)
    · by_cases c2 : (μ 37) (μ 36 2) ≤ hi
      · have f := k1 ⟨c1, c2⟩
        rw [← e] at b3
        rw [show ∀ x : Int, x - 48 = x - 48 from fun _ => rfl] at f
        have s : (μ 37) ((μ 36 2) + 1 - 1) = (μ 37) (μ 36 2) := by rw [e]
        rw [← s] at f
        clear k1 k0 b2
        obtain ⟨d, rfl⟩ := gD (show 1 ≤ D by omega)
        refine gC 300 [] rfl ?_
        (conv => whnf); try simp only [gO, gWe, ne_eq, Nat.reduceEqDiff, not_false_eq_true, true_or, or_true, true_and]
        repeat' (first | exact True.intro | (refine ⟨fun hb => ?_, fun hb => ?_⟩ <;> first | (exfalso; omega; done) | exact absurd True.intro hb | ((conv => whnf); try simp only [gO, gWe, ne_eq, Nat.reduceEqDiff, not_false_eq_true, true_or, or_true, true_and])) | (refine ⟨by omega, ?_⟩; (conv => whnf); try simp only [gO, gWe, ne_eq, Nat.reduceEqDiff, not_false_eq_true, true_or, or_true, true_and]) | (refine ⟨fun hb => ?_, ?_⟩ <;> first | (exfalso; omega; done) | exact absurd True.intro hb | ((conv => whnf); try simp only [gO, gWe, ne_eq, Nat.reduceEqDiff, not_false_eq_true, true_or, or_true, true_and])) | fail)
        exact f
      · have f := k0 (fun h => c2 h.2)
        clear k1 k0 b2
        obtain ⟨d, rfl⟩ := gD (show 1 ≤ D by omega)
        refine gC 300 [] rfl ?_
        (conv => whnf); try simp only [gO, gWe, ne_eq, Nat.reduceEqDiff, not_false_eq_true, true_or, or_true, true_and]
        repeat' (first | exact True.intro | (refine ⟨fun hb => ?_, fun hb => ?_⟩ <;> first | (exfalso; omega; done) | exact absurd True.intro hb | ((conv => whnf); try simp only [gO, gWe, ne_eq, Nat.reduceEqDiff, not_false_eq_true, true_or, or_true, true_and])) | (refine ⟨by omega, ?_⟩; (conv => whnf); try simp only [gO, gWe, ne_eq, Nat.reduceEqDiff, not_false_eq_true, true_or, or_true, true_and]) | (refine ⟨fun hb => ?_, ?_⟩ <;> first | (exfalso; omega; done) | exact absurd True.intro hb | ((conv => whnf); try simp only [gO, gWe, ne_eq, Nat.reduceEqDiff, not_false_eq_true, true_or, or_true, true_and])) | fail)
        exact f
    · have f := k0 (fun h => c1 h.1)
      clear k1 k0 b2
      obtain ⟨d, rfl⟩ := gD (show 1 ≤ D by omega)
      refine gC 300 [] rfl ?_
      (conv => whnf); try simp only [gO, gWe, ne_eq, Nat.reduceEqDiff, not_false_eq_true, true_or, or_true, true_and]
      repeat' (first | exact True.intro | (refine ⟨fun hb => ?_, fun hb => ?_⟩ <;> first | (exfalso; omega; done) | exact absurd True.intro hb | ((conv => whnf); try simp only [gO, gWe, ne_eq, Nat.reduceEqDiff, not_false_eq_true, true_or, or_true, true_and])) | (refine ⟨by omega, ?_⟩; (conv => whnf); try simp only [gO, gWe, ne_eq, Nat.reduceEqDiff, not_false_eq_true, true_or, or_true, true_and]) | (refine ⟨fun hb => ?_, ?_⟩ <;> first | (exfalso; omega; done) | exact absurd True.intro hb | ((conv => whnf); try simp only [gO, gWe, ne_eq, Nat.reduceEqDiff, not_false_eq_true, true_or, or_true, true_and])) | fail)
      exact f
  · have f := k0 (fun h => by omega)
    clear k1 k0 b2
    obtain ⟨d, rfl⟩ := gD (show 1 ≤ D by omega)
    refine gC 300 [] rfl ?_
    (conv => whnf); try simp only [gO, gWe, ne_eq, Nat.reduceEqDiff, not_false_eq_true, true_or, or_true, true_and]
    repeat' (first | exact True.intro | (refine ⟨fun hb => ?_, fun hb => ?_⟩ <;> first | (exfalso; omega; done) | exact absurd True.intro hb | ((conv => whnf); try simp only [gO, gWe, ne_eq, Nat.reduceEqDiff, not_false_eq_true, true_or, or_true, true_and])) | (refine ⟨by omega, ?_⟩; (conv => whnf); try simp only [gO, gWe, ne_eq, Nat.reduceEqDiff, not_false_eq_true, true_or, or_true, true_and]) | (refine ⟨fun hb => ?_, ?_⟩ <;> first | (exfalso; omega; done) | exact absurd True.intro hb | ((conv => whnf); try simp only [gO, gWe, ne_eq, Nat.reduceEqDiff, not_false_eq_true, true_or, or_true, true_and])) | fail)
    exact f
theorem t_73 {D : Nat} (hD : 1 ≤ D) {μ : MU} {Q : GQ} {c p : Int} (hT : hTx μ) (hp : (μ 36 2) = p) (p0 : 0 ≤ p ∧ p ≤ 200) (hc : 1 ≤ c) (k1 : pHr (μ 37) (μ 36 1) p = c → Q (some (gI (1))) g_SH (gW μ 36 2 (p + 1))) (k0 : ¬ pHr (μ 37) (μ 36 1) p = c → Q (some (gI (0))) g_SH μ) : gCall g_T g_F sN sX D 73 [gR 36, gI c] g_SH μ Q := by
  have T := hT.1
  subst hp
  rcases pHr_b hT p0.1 with ⟨b1, b2, b3⟩ | ⟨b1, b2⟩
  · rw [b2] at k1 k0
    by_cases c1 : (μ 37) (μ 36 2) = c
    · have f := k1 c1
      clear k1 k0 b2
      obtain ⟨d, rfl⟩ := gD (show 1 ≤ D by omega)
      refine gC 300 [] rfl ?_
      (conv => whnf); try simp only [gO, gWe, ne_eq, Nat.reduceEqDiff, not_false_eq_true, true_or, or_true, true_and]
      repeat' (first | exact True.intro | (refine ⟨fun hb => ?_, fun hb => ?_⟩ <;> first | (exfalso; omega; done) | exact absurd True.intro hb | ((conv => whnf); try simp only [gO, gWe, ne_eq, Nat.reduceEqDiff, not_false_eq_true, true_or, or_true, true_and])) | (refine ⟨by omega, ?_⟩; (conv => whnf); try simp only [gO, gWe, ne_eq, Nat.reduceEqDiff, not_false_eq_true, true_or, or_true, true_and]) | (refine ⟨fun hb => ?_, ?_⟩ <;> first | (exfalso; omega; done) | exact absurd True.intro hb | ((conv => whnf); try simp only [gO, gWe, ne_eq, Nat.reduceEqDiff, not_false_eq_true, true_or, or_true, true_and])) | fail)
      exact f
    · have f := k0 c1
      clear k1 k0 b2
      obtain ⟨d, rfl⟩ := gD (show 1 ≤ D by omega)
      refine gC 300 [] rfl ?_
      (conv => whnf); try simp only [gO, gWe, ne_eq, Nat.reduceEqDiff, not_false_eq_true, true_or, or_true, true_and]
      repeat' (first | exact True.intro | (refine ⟨fun hb => ?_, fun hb => ?_⟩ <;> first | (exfalso; omega; done) | exact absurd True.intro hb | ((conv => whnf); try simp only [gO, gWe, ne_eq, Nat.reduceEqDiff, not_false_eq_true, true_or, or_true, true_and])) | (refine ⟨by omega, ?_⟩; (conv => whnf); try simp only [gO, gWe, ne_eq, Nat.reduceEqDiff, not_false_eq_true, true_or, or_true, true_and]) | (refine ⟨fun hb => ?_, ?_⟩ <;> first | (exfalso; omega; done) | exact absurd True.intro hb | ((conv => whnf); try simp only [gO, gWe, ne_eq, Nat.reduceEqDiff, not_false_eq_true, true_or, or_true, true_and])) | fail)
      exact f
  · have f := k0 (by omega)
    clear k1 k0 b2
    obtain ⟨d, rfl⟩ := gD (show 1 ≤ D by omega)
    refine gC 300 [] rfl ?_
    (conv => whnf); try simp only [gO, gWe, ne_eq, Nat.reduceEqDiff, not_false_eq_true, true_or, or_true, true_and]
    repeat' (first | exact True.intro | (refine ⟨fun hb => ?_, fun hb => ?_⟩ <;> first | (exfalso; omega; done) | exact absurd True.intro hb | ((conv => whnf); try simp only [gO, gWe, ne_eq, Nat.reduceEqDiff, not_false_eq_true, true_or, or_true, true_and])) | (refine ⟨by omega, ?_⟩; (conv => whnf); try simp only [gO, gWe, ne_eq, Nat.reduceEqDiff, not_false_eq_true, true_or, or_true, true_and]) | (refine ⟨fun hb => ?_, ?_⟩ <;> first | (exfalso; omega; done) | exact absurd True.intro hb | ((conv => whnf); try simp only [gO, gWe, ne_eq, Nat.reduceEqDiff, not_false_eq_true, true_or, or_true, true_and])) | fail)
    exact f
theorem t_71 {D : Nat} (hD : 2 ≤ D) {μ : MU} {Q : GQ} {sg lo hi ot p : Int} (hT : hTx μ) (hp : (μ 36 2) = p) (p0 : 0 ≤ p ∧ p ≤ 190) (hsg : 1 ≤ sg) (hlo : 1 ≤ lo) (h : ∀ ν : MU, hPs μ ν (pOpt (pHr (μ 37) (μ 36 1)) sg (lo - 48) (hi - 48) ot p).2 → Q (some (gI ((pOpt (pHr (μ 37) (μ 36 1)) sg (lo - 48) (hi - 48) ot p).1))) g_SH ν) : gCall g_T g_F sN sX D 71 [gR 36, gI sg, gI lo, gI hi, gI ot] g_SH μ Q := by
  unfold pOpt at h
  obtain ⟨d, rfl⟩ := gD (show 1 ≤ D by omega)
  refine gC 300 [] rfl ?_
  (conv => whnf); try simp only [gO, gWe, ne_eq, Nat.reduceEqDiff, not_false_eq_true, true_or, or_true, true_and]
  refine t_73 (by omega) hT hp (by omega) hsg (fun c => ?_) (fun c => ?_)
  · rw [if_pos c] at h
    have P : hPs μ (gW μ 36 2 (p + 1)) (p + 1) := hPs.rf.W
    have tx := P.tx hT
    (conv => whnf); try simp only [gO, gWe, ne_eq, Nat.reduceEqDiff, not_false_eq_true, true_or, or_true, true_and]
    repeat' (first | exact True.intro | (refine ⟨fun hb => ?_, fun hb => ?_⟩ <;> first | (exfalso; omega; done) | exact absurd True.intro hb | ((conv => whnf); try simp only [gO, gWe, ne_eq, Nat.reduceEqDiff, not_false_eq_true, true_or, or_true, true_and])) | (refine ⟨by omega, ?_⟩; (conv => whnf); try simp only [gO, gWe, ne_eq, Nat.reduceEqDiff, not_false_eq_true, true_or, or_true, true_and]) | (refine ⟨fun hb => ?_, ?_⟩ <;> first | (exfalso; omega; done) | exact absurd True.intro hb | ((conv => whnf); try simp only [gO, gWe, ne_eq, Nat.reduceEqDiff, not_false_eq_true, true_or, or_true, true_and])) | fail)
    refine t_72 (by omega) tx.1 P.2.1 (by omega) hlo (fun c2 => ?_) (fun c2 => ?_)
    · rw [tx.2] at c2 ⊢
      rw [if_pos ⟨by omega, by omega⟩] at h
      have f := h _ (P.W (q := p + 2))
      rw [show p + 2 = p + 1 + 1 by omega] at f
      (conv => whnf); try simp only [gO, gWe, ne_eq, Nat.reduceEqDiff, not_false_eq_true, true_or, or_true, true_and]
      repeat' (first | exact True.intro | (refine ⟨fun hb => ?_, fun hb => ?_⟩ <;> first | (exfalso; omega; done) | exact absurd True.intro hb | ((conv => whnf); try simp only [gO, gWe, ne_eq, Nat.reduceEqDiff, not_false_eq_true, true_or, or_true, true_and])) | (refine ⟨by omega, ?_⟩; (conv => whnf); try simp only [gO, gWe, ne_eq, Nat.reduceEqDiff, not_false_eq_true, true_or, or_true, true_and]) | (refine ⟨fun hb => ?_, ?_⟩ <;> first | (exfalso; omega; done) | exact absurd True.intro hb | ((conv => whnf); try simp only [gO, gWe, ne_eq, Nat.reduceEqDiff, not_false_eq_true, true_or, or_true, true_and])) | fail)
      exact f
    · rw [tx.2] at c2
      rw [if_neg (fun hh => c2 ⟨by omega, by omega⟩)] at h
      have f := h _ P
      (conv => whnf); try simp only [gO, gWe, ne_eq, Nat.reduceEqDiff, not_false_eq_true, true_or, or_true, true_and]
      repeat' (first | exact True.intro | (refine ⟨fun hb => ?_, fun hb => ?_⟩ <;> first | (exfalso; omega; done) | exact absurd True.intro hb | ((conv => whnf); try simp only [gO, gWe, ne_eq, Nat.reduceEqDiff, not_false_eq_true, true_or, or_true, true_and])) | (refine ⟨by omega, ?_⟩; (conv => whnf); try simp only [gO, gWe, ne_eq, Nat.reduceEqDiff, not_false_eq_true, true_or, or_true, true_and]) | (refine ⟨fun hb => ?_, ?_⟩ <;> first | (exfalso; omega; done) | exact absurd True.intro hb | ((conv => whnf); try simp only [gO, gWe, ne_eq, Nat.reduceEqDiff, not_false_eq_true, true_or, or_true, true_and])) | fail)
      exact f
  · rw [if_neg c] at h
    have f := h μ (by rw [← hp]; exact hPs.rf)
    (conv => whnf); try simp only [gO, gWe, ne_eq, Nat.reduceEqDiff, not_false_eq_true, true_or, or_true, true_and]
    repeat' (first | exact True.intro | (refine ⟨fun hb => ?_, fun hb => ?_⟩ <;> first | (exfalso; omega; done) | exact absurd True.intro hb | ((conv => whnf); try simp only [gO, gWe, ne_eq, Nat.reduceEqDiff, not_false_eq_true, true_or, or_true, true_and])) | (refine ⟨by omega, ?_⟩; (conv => whnf); try simp only [gO, gWe, ne_eq, Nat.reduceEqDiff, not_false_eq_true, true_or, or_true, true_and]) | (refine ⟨fun hb => ?_, ?_⟩ <;> first | (exfalso; omega; done) | exact absurd True.intro hb | ((conv => whnf); try simp only [gO, gWe, ne_eq, Nat.reduceEqDiff, not_false_eq_true, true_or, or_true, true_and])) | fail)
    exact f
theorem t_70 {D : Nat} (hD : 2 ≤ D) {μ : MU} {Q : GQ} {n b p : Int} (hT : hTx μ) (hp : (μ 36 2) = p) (p0 : 0 ≤ p ∧ p ≤ 190) (hn : 0 ≤ n ∧ n ≤ 12) (hb0 : -4 ≤ b ∧ b ≤ 12 ∧ b ≠ -1) (h : ∀ ν : MU, hPs μ ν (pNum (pHr (μ 37) (μ 36 1)) n b p).2 → Q (some (gI ((pNum (pHr (μ 37) (μ 36 1)) n b p).1))) g_SH ν) : gCall g_T g_F sN sX D 70 [gR 36, gI n, gI b] g_SH μ Q := by
  unfold pNum at h
  obtain ⟨d, rfl⟩ := gD (show 1 ≤ D by omega)
  refine gC 300 [] rfl ?_
  (conv => whnf); try simp only [gO, gWe, ne_eq, Nat.reduceEqDiff, not_false_eq_true, true_or, or_true, true_and]
  refine t_72 (by omega) hT hp (by omega) (by omega) (fun c => ?_) (fun c => ?_)
  · rw [if_pos c] at h
    have P : hPs μ (gW μ 36 2 (p + 1)) (p + 1) := hPs.rf.W
    have tx := P.tx hT
    have G := pHr_b hT p0.1
    have h9 : pHr (μ 37) (μ 36 1) p ≤ 57 := c.2
    have h8 : 48 ≤ pHr (μ 37) (μ 36 1) p := c.1
    clear G
    by_cases c1 : 48 < pHr (μ 37) (μ 36 1) p
    · by_cases c2 : 48 ≤ pHr (μ 37) (μ 36 1) (p + 1) ∧ pHr (μ 37) (μ 36 1) (p + 1) ≤ 57
      · rw [if_pos ⟨c1, c2.1, c2.2⟩] at h
        have PP : hPs μ (gW (gW μ 36 2 (p + 1)) 36 2 (p + 1 + 1)) (p + 2) := by rw [show p + 2 = p + 1 + 1 by omega]; exact P.W
        have B : hPs μ (gW (gW (gW μ 36 2 (p + 1)) 36 2 (p + 1 + 1)) 36 2 p) p := PP.W
        by_cases c3 : 10 * (pHr (μ 37) (μ 36 1) p - 48) + (pHr (μ 37) (μ 36 1) (p + 1) - 48) < n ∧ 10 * (pHr (μ 37) (μ 36 1) p - 48) + (pHr (μ 37) (μ 36 1) (p + 1) - 48) ≠ b
        · rw [if_pos c3] at h
          have f := h _ PP
          clear h
          (conv => whnf); try simp only [gO, gWe, ne_eq, Nat.reduceEqDiff, not_false_eq_true, true_or, or_true, true_and]
          repeat' (first | exact True.intro | (refine ⟨fun hb => ?_, fun hb => ?_⟩ <;> first | (exfalso; omega; done) | exact absurd True.intro hb | ((conv => whnf); try simp only [gO, gWe, ne_eq, Nat.reduceEqDiff, not_false_eq_true, true_or, or_true, true_and])) | (refine ⟨by omega, ?_⟩; (conv => whnf); try simp only [gO, gWe, ne_eq, Nat.reduceEqDiff, not_false_eq_true, true_or, or_true, true_and]) | (refine ⟨fun hb => ?_, ?_⟩ <;> first | (exfalso; omega; done) | exact absurd True.intro hb | ((conv => whnf); try simp only [gO, gWe, ne_eq, Nat.reduceEqDiff, not_false_eq_true, true_or, or_true, true_and])) | fail)
          refine t_72 (by omega) tx.1 P.2.1 (by omega) (by omega) (fun c5 => ?_) (fun c5 => absurd (by rw [tx.2]; exact c2) c5)
          rw [tx.2]
          clear tx
          (conv => whnf); try simp only [gO, gWe, ne_eq, Nat.reduceEqDiff, not_false_eq_true, true_or, or_true, true_and]
          repeat' (first | exact True.intro | (refine ⟨fun hb => ?_, fun hb => ?_⟩ <;> first | (exfalso; omega; done) | exact absurd True.intro hb | ((conv => whnf); try simp only [gO, gWe, ne_eq, Nat.reduceEqDiff, not_false_eq_true, true_or, or_true, true_and])) | (refine ⟨by omega, ?_⟩; (conv => whnf); try simp only [gO, gWe, ne_eq, Nat.reduceEqDiff, not_false_eq_true, true_or, or_true, true_and]) | (refine ⟨fun hb => ?_, ?_⟩ <;> first | (exfalso; omega; done) | exact absurd True.intro hb | ((conv => whnf); try simp only [gO, gWe, ne_eq, Nat.reduceEqDiff, not_false_eq_true, true_or, or_true, true_and])) | fail)
          exact f
        · rw [if_neg c3] at h
          have f := h _ B
          clear h
          rw [← hp] at f
          (conv => whnf); try simp only [gO, gWe, ne_eq, Nat.reduceEqDiff, not_false_eq_true, true_or, or_true, true_and]
          repeat' (first | exact True.intro | (refine ⟨fun hb => ?_, fun hb => ?_⟩ <;> first | (exfalso; omega; done) | exact absurd True.intro hb | ((conv => whnf); try simp only [gO, gWe, ne_eq, Nat.reduceEqDiff, not_false_eq_true, true_or, or_true, true_and])) | (refine ⟨by omega, ?_⟩; (conv => whnf); try simp only [gO, gWe, ne_eq, Nat.reduceEqDiff, not_false_eq_true, true_or, or_true, true_and]) | (refine ⟨fun hb => ?_, ?_⟩ <;> first | (exfalso; omega; done) | exact absurd True.intro hb | ((conv => whnf); try simp only [gO, gWe, ne_eq, Nat.reduceEqDiff, not_false_eq_true, true_or, or_true, true_and])) | fail)
          refine t_72 (by omega) tx.1 P.2.1 (by omega) (by omega) (fun c5 => ?_) (fun c5 => absurd (by rw [tx.2]; exact c2) c5)
          rw [tx.2]
          clear tx
          (conv => whnf); try simp only [gO, gWe, ne_eq, Nat.reduceEqDiff, not_false_eq_true, true_or, or_true, true_and]
          repeat' (first | exact True.intro | (refine ⟨fun hb => ?_, fun hb => ?_⟩ <;> first | (exfalso; omega; done) | exact absurd True.intro hb | ((conv => whnf); try simp only [gO, gWe, ne_eq, Nat.reduceEqDiff, not_false_eq_true, true_or, or_true, true_and])) | (refine ⟨by omega, ?_⟩; (conv => whnf); try simp only [gO, gWe, ne_eq, Nat.reduceEqDiff, not_false_eq_true, true_or, or_true, true_and]) | (refine ⟨fun hb => ?_, ?_⟩ <;> first | (exfalso; omega; done) | exact absurd True.intro hb | ((conv => whnf); try simp only [gO, gWe, ne_eq, Nat.reduceEqDiff, not_false_eq_true, true_or, or_true, true_and])) | fail)
          all_goals (subst hp; exact f)
      · rw [if_neg (fun hh => c2 hh.2)] at h
        have B : hPs μ (gW (gW μ 36 2 (p + 1)) 36 2 p) p := P.W
        by_cases c3 : pHr (μ 37) (μ 36 1) p - 48 < n ∧ pHr (μ 37) (μ 36 1) p - 48 ≠ b
        · rw [if_pos c3] at h
          have f := h _ P
          clear h
          (conv => whnf); try simp only [gO, gWe, ne_eq, Nat.reduceEqDiff, not_false_eq_true, true_or, or_true, true_and]
          repeat' (first | exact True.intro | (refine ⟨fun hb => ?_, fun hb => ?_⟩ <;> first | (exfalso; omega; done) | exact absurd True.intro hb | ((conv => whnf); try simp only [gO, gWe, ne_eq, Nat.reduceEqDiff, not_false_eq_true, true_or, or_true, true_and])) | (refine ⟨by omega, ?_⟩; (conv => whnf); try simp only [gO, gWe, ne_eq, Nat.reduceEqDiff, not_false_eq_true, true_or, or_true, true_and]) | (refine ⟨fun hb => ?_, ?_⟩ <;> first | (exfalso; omega; done) | exact absurd True.intro hb | ((conv => whnf); try simp only [gO, gWe, ne_eq, Nat.reduceEqDiff, not_false_eq_true, true_or, or_true, true_and])) | fail)
          refine t_72 (by omega) tx.1 P.2.1 (by omega) (by omega) (fun c5 => absurd (by rw [tx.2] at c5; exact c5) c2) (fun c5 => ?_)
          clear tx
          (conv => whnf); try simp only [gO, gWe, ne_eq, Nat.reduceEqDiff, not_false_eq_true, true_or, or_true, true_and]
          repeat' (first | exact True.intro | (refine ⟨fun hb => ?_, fun hb => ?_⟩ <;> first | (exfalso; omega; done) | exact absurd True.intro hb | ((conv => whnf); try simp only [gO, gWe, ne_eq, Nat.reduceEqDiff, not_false_eq_true, true_or, or_true, true_and])) | (refine ⟨by omega, ?_⟩; (conv => whnf); try simp only [gO, gWe, ne_eq, Nat.reduceEqDiff, not_false_eq_true, true_or, or_true, true_and]) | (refine ⟨fun hb => ?_, ?_⟩ <;> first | (exfalso; omega; done) | exact absurd True.intro hb | ((conv => whnf); try simp only [gO, gWe, ne_eq, Nat.reduceEqDiff, not_false_eq_true, true_or, or_true, true_and])) | fail)
          exact f
        · rw [if_neg c3] at h
          have f := h _ B
          clear h
          (conv => whnf); try simp only [gO, gWe, ne_eq, Nat.reduceEqDiff, not_false_eq_true, true_or, or_true, true_and]
          repeat' (first | exact True.intro | (refine ⟨fun hb => ?_, fun hb => ?_⟩ <;> first | (exfalso; omega; done) | exact absurd True.intro hb | ((conv => whnf); try simp only [gO, gWe, ne_eq, Nat.reduceEqDiff, not_false_eq_true, true_or, or_true, true_and])) | (refine ⟨by omega, ?_⟩; (conv => whnf); try simp only [gO, gWe, ne_eq, Nat.reduceEqDiff, not_false_eq_true, true_or, or_true, true_and]) | (refine ⟨fun hb => ?_, ?_⟩ <;> first | (exfalso; omega; done) | exact absurd True.intro hb | ((conv => whnf); try simp only [gO, gWe, ne_eq, Nat.reduceEqDiff, not_false_eq_true, true_or, or_true, true_and])) | fail)
          refine t_72 (by omega) tx.1 P.2.1 (by omega) (by omega) (fun c5 => absurd (by rw [tx.2] at c5; exact c5) c2) (fun c5 => ?_)
          clear tx
          (conv => whnf); try simp only [gO, gWe, ne_eq, Nat.reduceEqDiff, not_false_eq_true, true_or, or_true, true_and]
          repeat' (first | exact True.intro | (refine ⟨fun hb => ?_, fun hb => ?_⟩ <;> first | (exfalso; omega; done) | exact absurd True.intro hb | ((conv => whnf); try simp only [gO, gWe, ne_eq, Nat.reduceEqDiff, not_false_eq_true, true_or, or_true, true_and])) | (refine ⟨by omega, ?_⟩; (conv => whnf); try simp only [gO, gWe, ne_eq, Nat.reduceEqDiff, not_false_eq_true, true_or, or_true, true_and]) | (refine ⟨fun hb => ?_, ?_⟩ <;> first | (exfalso; omega; done) | exact absurd True.intro hb | ((conv => whnf); try simp only [gO, gWe, ne_eq, Nat.reduceEqDiff, not_false_eq_true, true_or, or_true, true_and])) | fail)
          all_goals (subst hp; exact f)
    · rw [if_neg (fun hh => c1 hh.1)] at h
      have B : hPs μ (gW (gW μ 36 2 (p + 1)) 36 2 p) p := P.W
      by_cases c3 : pHr (μ 37) (μ 36 1) p - 48 < n ∧ pHr (μ 37) (μ 36 1) p - 48 ≠ b
      · rw [if_pos c3] at h
        have f := h _ P
        clear h tx
        (conv => whnf); try simp only [gO, gWe, ne_eq, Nat.reduceEqDiff, not_false_eq_true, true_or, or_true, true_and]
        repeat' (first | exact True.intro | (refine ⟨fun hb => ?_, fun hb => ?_⟩ <;> first | (exfalso; omega; done) | exact absurd True.intro hb | ((conv => whnf); try simp only [gO, gWe, ne_eq, Nat.reduceEqDiff, not_false_eq_true, true_or, or_true, true_and])) | (refine ⟨by omega, ?_⟩; (conv => whnf); try simp only [gO, gWe, ne_eq, Nat.reduceEqDiff, not_false_eq_true, true_or, or_true, true_and]) | (refine ⟨fun hb => ?_, ?_⟩ <;> first | (exfalso; omega; done) | exact absurd True.intro hb | ((conv => whnf); try simp only [gO, gWe, ne_eq, Nat.reduceEqDiff, not_false_eq_true, true_or, or_true, true_and])) | fail)
        exact f
      · rw [if_neg c3] at h
        have f := h _ B
        clear h tx
        (conv => whnf); try simp only [gO, gWe, ne_eq, Nat.reduceEqDiff, not_false_eq_true, true_or, or_true, true_and]
        repeat' (first | exact True.intro | (refine ⟨fun hb => ?_, fun hb => ?_⟩ <;> first | (exfalso; omega; done) | exact absurd True.intro hb | ((conv => whnf); try simp only [gO, gWe, ne_eq, Nat.reduceEqDiff, not_false_eq_true, true_or, or_true, true_and])) | (refine ⟨by omega, ?_⟩; (conv => whnf); try simp only [gO, gWe, ne_eq, Nat.reduceEqDiff, not_false_eq_true, true_or, or_true, true_and]) | (refine ⟨fun hb => ?_, ?_⟩ <;> first | (exfalso; omega; done) | exact absurd True.intro hb | ((conv => whnf); try simp only [gO, gWe, ne_eq, Nat.reduceEqDiff, not_false_eq_true, true_or, or_true, true_and])) | fail)
        all_goals (subst hp; exact f)
  · rw [if_neg c] at h
    have B : hPs μ (gW μ 36 2 p) p := hPs.rf.W
    have f := h μ (by rw [← hp]; exact hPs.rf)
    clear h
    (conv => whnf); try simp only [gO, gWe, ne_eq, Nat.reduceEqDiff, not_false_eq_true, true_or, or_true, true_and]
    repeat' (first | exact True.intro | (refine ⟨fun hb => ?_, fun hb => ?_⟩ <;> first | (exfalso; omega; done) | exact absurd True.intro hb | ((conv => whnf); try simp only [gO, gWe, ne_eq, Nat.reduceEqDiff, not_false_eq_true, true_or, or_true, true_and])) | (refine ⟨by omega, ?_⟩; (conv => whnf); try simp only [gO, gWe, ne_eq, Nat.reduceEqDiff, not_false_eq_true, true_or, or_true, true_and]) | (refine ⟨fun hb => ?_, ?_⟩ <;> first | (exfalso; omega; done) | exact absurd True.intro hb | ((conv => whnf); try simp only [gO, gWe, ne_eq, Nat.reduceEqDiff, not_false_eq_true, true_or, or_true, true_and])) | fail)
    exact f
