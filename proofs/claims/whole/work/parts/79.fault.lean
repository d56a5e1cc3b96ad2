/-! the case faultPosition -/
theorem iT_h {μ : MU} (h : iT μ) : hTx μ ∧ hMt μ (pHr (μ 37) (μ 36 1)) := by
  obtain ⟨t1, t2, t3⟩ := h
  refine ⟨⟨t1, fun k k0 k1 => (t3 k k0 k1).2⟩, by rw [t2]; exact t1, fun p p0 => ?_⟩
  unfold pHr
  rw [t2]
  by_cases c : p < (μ 36 1)
  · rw [if_pos c]
    have := t3 p p0 c
    exact Or.inl ⟨c, this.1, this.2⟩
  · rw [if_neg c]; exact Or.inr ⟨by omega, rfl⟩
theorem iT_c {μ τ : MU} (h1 : τ 36 1 = μ 36 1) (h2 : τ 37 = μ 37) (h3 : τ 61 4 = μ 61 4) (h4 : τ 65 = μ 65) (h : iT μ) : iT τ := by
  unfold iT at *
  rw [h1, h2, h3, h4]
  exact h
theorem c_110 {D : Nat} (hD : 30 ≤ D) {μ : MU} (hA : iAll μ) : hCs D 110 220 [] μ := by
  intro Q Q' h h'
  have hG := hA.1.1
  have G := hG.1
  obtain ⟨hT, hMT⟩ := iT_h hA.2.2.2.1
  have n12 : 0 ≤ (μ 1 0) ∧ (μ 1 0) ≤ 12 := by omega
  obtain ⟨K, K1, hg, he⟩ := hK_x hT (n := (μ 1 0)) n12.1
  have gb := fun (k : Nat) (hk : k ≤ K) => hGd_b hT n12.1 k (fun j hj => hg j (by omega))
  have T := hT.1
  have mlen : (μ 61 4) = (μ 36 1) := hA.2.2.2.1.2.1
  have z0 : μ 62 0 = (μ 1 0) := hA.2.1.1.1.1
  have fin : ∀ ν τ : MU, gFr [36] μ ν → ν 36 1 = μ 36 1 → gFr [61, 80] ν τ → (∀ j : Int, j ≠ 20 → j ≠ 22 → τ 61 j = ν 61 j) → iAll τ := fun ν τ h1 h2 h3 h4 => fin_t hA ((h1.mo (by decide)).tr (h3.mo (by decide))) (by rw [h4 5 (by decide) (by decide), h1 61 (by decide)]) (iT_c (by rw [h3 36 (by decide)]; exact h2) (by rw [h3 37 (by decide), h1 37 (by decide)]) (by rw [h4 4 (by decide) (by decide), h1 61 (by decide)]) (by rw [h3 65 (by decide), h1 65 (by decide)]) hA.2.2.2.1)
  obtain ⟨d, rfl⟩ := gD (show 1 ≤ D by omega)
  refine gC 300 [] rfl ?_
  (conv => whnf); try simp only [gO, gWe, ne_eq, Nat.reduceEqDiff, not_false_eq_true, true_or, or_true, true_and]
  repeat' (first | exact True.intro | (refine ⟨fun hb => ?_, fun hb => ?_⟩ <;> first | (exfalso; omega; done) | exact absurd True.intro hb | ((conv => whnf); try simp only [gO, gWe, ne_eq, Nat.reduceEqDiff, not_false_eq_true, true_or, or_true, true_and])) | (refine ⟨by omega, ?_⟩; (conv => whnf); try simp only [gO, gWe, ne_eq, Nat.reduceEqDiff, not_false_eq_true, true_or, or_true, true_and]) | (refine ⟨fun hb => ?_, ?_⟩ <;> first | (exfalso; omega; done) | exact absurd True.intro hb | ((conv => whnf); try simp only [gO, gWe, ne_eq, Nat.reduceEqDiff, not_false_eq_true, true_or, or_true, true_and])) | fail)
  refine t_68 (by omega) rfl hT n12 K1 hg he (fun c ν hν v1 v3 => ?_) (fun c d ν hν v1 => ?_)
  · have mt : hMt ν (pHr (μ 37) (μ 36 1)) := hMt_c (by rw [hν 61 (by decide)]) (hν 65 (by decide)) hMT
    have ml : (ν 61 4) = (μ 36 1) := by rw [hν 61 (by decide)]; exact mlen
    (conv => whnf); try simp only [gO, gWe, ne_eq, Nat.reduceEqDiff, not_false_eq_true, true_or, or_true, true_and]
    repeat' (first | exact True.intro | (refine ⟨fun hb => ?_, fun hb => ?_⟩ <;> first | (exfalso; omega; done) | exact absurd True.intro hb | ((conv => whnf); try simp only [gO, gWe, ne_eq, Nat.reduceEqDiff, not_false_eq_true, true_or, or_true, true_and])) | (refine ⟨by omega, ?_⟩; (conv => whnf); try simp only [gO, gWe, ne_eq, Nat.reduceEqDiff, not_false_eq_true, true_or, or_true, true_and]) | (refine ⟨fun hb => ?_, ?_⟩ <;> first | (exfalso; omega; done) | exact absurd True.intro hb | ((conv => whnf); try simp only [gO, gWe, ne_eq, Nat.reduceEqDiff, not_false_eq_true, true_or, or_true, true_and])) | fail)
    refine h _ ν ?_
    refine gC 300 [] rfl ?_
    (conv => whnf); try simp only [gO, gWe, ne_eq, Nat.reduceEqDiff, not_false_eq_true, true_or, or_true, true_and]
    refine t_219 (by omega) (K := K) mt (by rw [hν 62 (by decide)]; exact z0) n12 K1 (fun k hk => by have := gb k hk; omega) (by rw [ml]; exact hg) (by rw [ml]; exact he) (fun _ τ hτ w1 w2 _ => ?_) (fun c2 => by omega)
    have f := h' (-4) (-4) τ rfl (fin ν τ hν v1 hτ w1)
    clear fin hg he gb mt
    (conv => whnf); try simp only [gO, gWe, ne_eq, Nat.reduceEqDiff, not_false_eq_true, true_or, or_true, true_and]
    repeat' (first | exact True.intro | (refine ⟨fun hb => ?_, fun hb => ?_⟩ <;> first | (exfalso; omega; done) | exact absurd True.intro hb | ((conv => whnf); try simp only [gO, gWe, ne_eq, Nat.reduceEqDiff, not_false_eq_true, true_or, or_true, true_and])) | (refine ⟨by omega, ?_⟩; (conv => whnf); try simp only [gO, gWe, ne_eq, Nat.reduceEqDiff, not_false_eq_true, true_or, or_true, true_and]) | (refine ⟨fun hb => ?_, ?_⟩ <;> first | (exfalso; omega; done) | exact absurd True.intro hb | ((conv => whnf); try simp only [gO, gWe, ne_eq, Nat.reduceEqDiff, not_false_eq_true, true_or, or_true, true_and])) | fail)
    exact f
  · have mt : hMt ν (pHr (μ 37) (μ 36 1)) := hMt_c (by rw [hν 61 (by decide)]) (hν 65 (by decide)) hMT
    have ml : (ν 61 4) = (μ 36 1) := by rw [hν 61 (by decide)]; exact mlen
    (conv => whnf); try simp only [gO, gWe, ne_eq, Nat.reduceEqDiff, not_false_eq_true, true_or, or_true, true_and]
    repeat' (first | exact True.intro | (refine ⟨fun hb => ?_, fun hb => ?_⟩ <;> first | (exfalso; omega; done) | exact absurd True.intro hb | ((conv => whnf); try simp only [gO, gWe, ne_eq, Nat.reduceEqDiff, not_false_eq_true, true_or, or_true, true_and])) | (refine ⟨by omega, ?_⟩; (conv => whnf); try simp only [gO, gWe, ne_eq, Nat.reduceEqDiff, not_false_eq_true, true_or, or_true, true_and]) | (refine ⟨fun hb => ?_, ?_⟩ <;> first | (exfalso; omega; done) | exact absurd True.intro hb | ((conv => whnf); try simp only [gO, gWe, ne_eq, Nat.reduceEqDiff, not_false_eq_true, true_or, or_true, true_and])) | fail)
    refine h _ ν ?_
    refine gC 300 [] rfl ?_
    (conv => whnf); try simp only [gO, gWe, ne_eq, Nat.reduceEqDiff, not_false_eq_true, true_or, or_true, true_and]
    refine t_219 (by omega) (K := K) mt (by rw [hν 62 (by decide)]; exact z0) n12 K1 (fun k hk => by have := gb k hk; omega) (by rw [ml]; exact hg) (by rw [ml]; exact he) (fun c2 => by omega) (fun _ τ hτ w1 w2 => ?_)
    have f := h' _ _ τ w2 (fin ν τ hν v1 hτ w1)
    clear fin hg he gb mt
    (conv => whnf); try simp only [gO, gWe, ne_eq, Nat.reduceEqDiff, not_false_eq_true, true_or, or_true, true_and]
    repeat' (first | exact True.intro | (refine ⟨fun hb => ?_, fun hb => ?_⟩ <;> first | (exfalso; omega; done) | exact absurd True.intro hb | ((conv => whnf); try simp only [gO, gWe, ne_eq, Nat.reduceEqDiff, not_false_eq_true, true_or, or_true, true_and])) | (refine ⟨by omega, ?_⟩; (conv => whnf); try simp only [gO, gWe, ne_eq, Nat.reduceEqDiff, not_false_eq_true, true_or, or_true, true_and]) | (refine ⟨fun hb => ?_, ?_⟩ <;> first | (exfalso; omega; done) | exact absurd True.intro hb | ((conv => whnf); try simp only [gO, gWe, ne_eq, Nat.reduceEqDiff, not_false_eq_true, true_or, or_true, true_and])) | fail)
    exact f
