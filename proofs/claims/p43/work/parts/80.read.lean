variable {sN : Int} {sX : Int → Int}
/-! the case read -/
def hAd (hr : Int → Int) (μ ρ : MU) (i : Int) : Prop := gFr [1, 4, 5, 6, 7, 8, 36] μ ρ ∧ ((ρ 1 0) = (μ 1 0) ∧ (ρ 1 1) = (μ 1 1) + i) ∧ (∀ e : Int, 0 ≤ e → e < (μ 1 1) → (ρ 4) e = (μ 4) e ∧ (ρ 5) e = (μ 5) e ∧ (ρ 6) e = (μ 6) e ∧ (ρ 7) e = (μ 7) e ∧ (ρ 8) e = (μ 8) e) ∧
  ∀ j : Nat, (j : Int) < i → (ρ 4) ((μ 1 1) + j) = (pE1 hr (μ 1 0) (pPo hr (μ 1 0) j)).1 ∧ (ρ 5) ((μ 1 1) + j) = (pE3 hr (μ 1 0) (pPo hr (μ 1 0) j)).1 ∧ (ρ 6) ((μ 1 1) + j) = (pE2 hr (μ 1 0) (pPo hr (μ 1 0) j)).1 ∧ (ρ 7) ((μ 1 1) + j) = (pE4 hr (μ 1 0) (pPo hr (μ 1 0) j)).1 ∧ (ρ 8) ((μ 1 1) + j) = (pE5 hr (μ 1 0) (pPo hr (μ 1 0) j)).1
theorem hAd_s {hr : Int → Int} {μ ρ ν : MU} {i : Int} (hG : iG μ) (i0 : 0 ≤ i) (h : hAd hr μ ρ i) (hν : gFr [36] ρ ν) (hv : ν 36 4 = (pE1 hr (μ 1 0) (pPo hr (μ 1 0) i.toNat)).1 ∧ ν 36 5 = (pE3 hr (μ 1 0) (pPo hr (μ 1 0) i.toNat)).1 ∧ ν 36 6 = (pE2 hr (μ 1 0) (pPo hr (μ 1 0) i.toNat)).1 ∧ ν 36 7 = (pE4 hr (μ 1 0) (pPo hr (μ 1 0) i.toNat)).1 ∧ ν 36 8 = (pE5 hr (μ 1 0) (pPo hr (μ 1 0) i.toNat)).1) :
    hAd hr μ (gW (gW (gW (gW (gW (gW ν 4 (ν 1 1) (ν 36 4)) 5 (ν 1 1) (ν 36 5)) 6 (ν 1 1) (ν 36 6)) 7 (ν 1 1) (ν 36 7)) 8 (ν 1 1) (ν 36 8)) 1 1 ((ν 1 1) + 1)) (i + 1) := by
  obtain ⟨h1, h2, h3, h4⟩ := h
  have G := hG.1
  have e1 : (ν 1 1) = (μ 1 1) + i := by rw [hν 1 (by decide)]; exact h2.2
  have e0 : (ν 1 0) = (μ 1 0) := by rw [hν 1 (by decide)]; exact h2.1
  have c4 : ν 4 = ρ 4 := hν 4 (by decide)
  have c5 : ν 5 = ρ 5 := hν 5 (by decide)
  have c6 : ν 6 = ρ 6 := hν 6 (by decide)
  have c7 : ν 7 = ρ 7 := hν 7 (by decide)
  have c8 : ν 8 = ρ 8 := hν 8 (by decide)
  refine ⟨((((((h1.tr (hν.mo (by decide))).W (by decide)).W (by decide)).W (by decide)).W (by decide)).W (by decide)).W (by decide), ⟨?_, ?_⟩, fun e e0 e1 => ?_, fun j hj => ?_⟩
  · rw [gWn _ _ _ (by decide)]; exact e0
  · rw [gWe]; omega
  · show gW ν 4 _ _ 4 e = _ ∧ gW (gW ν 4 _ _) 5 _ _ 5 e = _ ∧ gW (gW (gW ν 4 _ _) 5 _ _) 6 _ _ 6 e = _ ∧ gW (gW (gW (gW ν 4 _ _) 5 _ _) 6 _ _) 7 _ _ 7 e = _ ∧ gW (gW (gW (gW (gW ν 4 _ _) 5 _ _) 6 _ _) 7 _ _) 8 _ _ 8 e = _
    rw [gWn _ _ _ (by omega), gWn _ _ _ (by omega), gWn _ _ _ (by omega), gWn _ _ _ (by omega), gWn _ _ _ (by omega)]
    show ν 4 e = _ ∧ ν 5 e = _ ∧ ν 6 e = _ ∧ ν 7 e = _ ∧ ν 8 e = _
    rw [c4, c5, c6, c7, c8]
    exact h3 e e0 e1
  · show gW ν 4 _ _ 4 ((μ 1 1) + j) = _ ∧ gW (gW ν 4 _ _) 5 _ _ 5 ((μ 1 1) + j) = _ ∧ gW (gW (gW ν 4 _ _) 5 _ _) 6 _ _ 6 ((μ 1 1) + j) = _ ∧ gW (gW (gW (gW ν 4 _ _) 5 _ _) 6 _ _) 7 _ _ 7 ((μ 1 1) + j) = _ ∧ gW (gW (gW (gW (gW ν 4 _ _) 5 _ _) 6 _ _) 7 _ _) 8 _ _ 8 ((μ 1 1) + j) = _
    by_cases c : (j : Int) = i
    · rw [show (μ 1 1) + (j : Int) = (ν 1 1) by omega, gWe, gWe, gWe, gWe, gWe, show j = i.toNat by omega]
      exact ⟨hv.1, hv.2.1, hv.2.2.1, hv.2.2.2.1, hv.2.2.2.2⟩
    · rw [gWn _ _ _ (by omega), gWn _ _ _ (by omega), gWn _ _ _ (by omega), gWn _ _ _ (by omega), gWn _ _ _ (by omega)]
      show ν 4 _ = _ ∧ ν 5 _ = _ ∧ ν 6 _ = _ ∧ ν 7 _ = _ ∧ ν 8 _ = _
      rw [c4, c5, c6, c7, c8]
      exact h4 j (by omega)
theorem hAd_G {hr : Int → Int} {μ ρ : MU} {K : Nat} (hG : iG μ) (hE20 : (μ 1 1) + K ≤ 20) (h : hAd hr μ ρ K) (hg : ∀ k : Nat, k < K → pOk hr (μ 1 0) (pPo hr (μ 1 0) k)) : iG ρ := by
  obtain ⟨h1, h2, h3, h4⟩ := h
  have G := hG.1
  refine ⟨by omega, fun i i0 i1 => ?_, fun e e0 e1 => ?_⟩
  · rw [h1 2 (by decide), h1 3 (by decide)]; exact hG.2.1 i i0 (by omega)
  · by_cases c : e < (μ 1 1)
    · have a := h3 e e0 c
      have b := hG.2.2 e e0 c
      omega
    · have a := h4 (e - (μ 1 1)).toNat (by omega)
      rw [show (μ 1 1) + (((e - (μ 1 1)).toNat : Nat) : Int) = e by omega] at a
      have o := hg (e - (μ 1 1)).toNat (by omega)
      have vv := pE_v (hr := hr) (n := (μ 1 0)) (p := pPo hr (μ 1 0) (e - (μ 1 1)).toNat) (by omega)
      obtain ⟨o1, o2, o3, o4, o5, o6, o7⟩ := o
      have v1 := vv.1.2 o1
      have v3 := vv.2.2.1.2 o4
      have v5 := vv.2.2.2.2
      omega
theorem t_111L {d : Nat} (hd : 25 ≤ d) {μ ρ₀ : MU} {Q : GQ} {K : Nat} {hr : Int → Int} (hh0 : pHr (μ 37) (μ 36 1) = hr) (hT : hTx μ) (hG : iG μ) (K1 : K ≤ 20) (hE20 : (μ 1 1) + K ≤ 20) (hg : hGd hr (μ 1 0) (μ 36 1) K)
    (kk : ∀ ρ : MU, hAd hr μ ρ K → ρ 36 1 = μ 36 1 → gG g_T g_F (gCall g_T g_F sN sX d) sN sX (g_T 111) Q 128 [gR 0, gI K, gI K] [] g_SH ρ 0 0) : ∀ i : Int, 0 ≤ i → i ≤ K → ∀ ρ : MU, hAd hr μ ρ i → ρ 36 1 = μ 36 1 → ρ 36 2 = pPo hr (μ 1 0) i.toNat → gG g_T g_F (gCall g_T g_F sN sX d) sN sX (g_T 111) Q 57 [gR 0, gI K, gI i] [] g_SH ρ 0 0 := by
  have G := hG.1
  have T := hT.1
  have gb := fun (k : Nat) (hk : k ≤ K) => (by
    have := hGd_b hT (show 0 ≤ (μ 1 0) by omega) k (by rw [hh0]; exact fun j hj => hg j (by omega))
    rw [hh0] at this
    exact this : 4 * (k : Int) ≤ pPo hr (μ 1 0) k ∧ pPo hr (μ 1 0) k ≤ (μ 36 1))
  refine g_up (fun i i0 i1 ih ρ hA r1 r2 => ?_) (fun ρ hA r1 r2 => ?_)
  · have b := gb i.toNat (by omega)
    have g := hg i.toNat (by omega)
    have tx := hT_c r1 (hA.1 37 (by decide)) hT
    have e2 := hA.2.1
    have j := fun ν (hν : gFr [36] ρ ν) (n1 : ν 36 1 = ρ 36 1) (n2 : ν 36 2 = pPs hr (μ 1 0) (pPo hr (μ 1 0) i.toNat)) hv => ih _ (hAd_s hG i0 hA (ν := ν) hν hv) (n1.trans r1) (by
      rw [show (i + 1).toNat = i.toNat + 1 by omega]
      exact (n2 : ν 36 2 = pPs hr (μ 1 0) (pPo hr (μ 1 0) i.toNat)))
    clear ih kk gb
    refine gB_gG [57] 300 ?_
    (conv => whnf); try simp only [gO, gWe, ne_eq, Nat.reduceEqDiff, not_false_eq_true, true_or, or_true, true_and]
    repeat' (first | exact True.intro | (refine ⟨fun hb => ?_, fun hb => ?_⟩ <;> first | (exfalso; omega; done) | exact absurd True.intro hb | ((conv => whnf); try simp only [gO, gWe, ne_eq, Nat.reduceEqDiff, not_false_eq_true, true_or, or_true, true_and])) | (refine ⟨by omega, ?_⟩; (conv => whnf); try simp only [gO, gWe, ne_eq, Nat.reduceEqDiff, not_false_eq_true, true_or, or_true, true_and]) | (refine ⟨fun hb => ?_, ?_⟩ <;> first | (exfalso; omega; done) | exact absurd True.intro hb | ((conv => whnf); try simp only [gO, gWe, ne_eq, Nat.reduceEqDiff, not_false_eq_true, true_or, or_true, true_and])) | fail)
    rw [e2.1]
    refine t_69 (by omega) (tx.2.trans hh0) tx.1 r2 (by omega) (by omega) (fun _ ν hν n2 n3 => ?_) (fun c => absurd g.2 c)
    have f := j ν hν.1 hν.2.1 n2 n3
    have e3 : (ν 1 1) = (μ 1 1) + i := by rw [hν.1 1 (by decide)]; exact e2.2
    clear j n3
    (conv => whnf); try simp only [gO, gWe, ne_eq, Nat.reduceEqDiff, not_false_eq_true, true_or, or_true, true_and]
    repeat' (first | exact True.intro | (refine ⟨fun hb => ?_, fun hb => ?_⟩ <;> first | (exfalso; omega; done) | exact absurd True.intro hb | ((conv => whnf); try simp only [gO, gWe, ne_eq, Nat.reduceEqDiff, not_false_eq_true, true_or, or_true, true_and])) | (refine ⟨by omega, ?_⟩; (conv => whnf); try simp only [gO, gWe, ne_eq, Nat.reduceEqDiff, not_false_eq_true, true_or, or_true, true_and]) | (refine ⟨fun hb => ?_, ?_⟩ <;> first | (exfalso; omega; done) | exact absurd True.intro hb | ((conv => whnf); try simp only [gO, gWe, ne_eq, Nat.reduceEqDiff, not_false_eq_true, true_or, or_true, true_and])) | fail)
    refine t_16 (by omega) (by omega) ?_
    (conv => whnf); try simp only [gO, gWe, ne_eq, Nat.reduceEqDiff, not_false_eq_true, true_or, or_true, true_and]
    repeat' (first | exact True.intro | (refine ⟨fun hb => ?_, fun hb => ?_⟩ <;> first | (exfalso; omega; done) | exact absurd True.intro hb | ((conv => whnf); try simp only [gO, gWe, ne_eq, Nat.reduceEqDiff, not_false_eq_true, true_or, or_true, true_and])) | (refine ⟨by omega, ?_⟩; (conv => whnf); try simp only [gO, gWe, ne_eq, Nat.reduceEqDiff, not_false_eq_true, true_or, or_true, true_and]) | (refine ⟨fun hb => ?_, ?_⟩ <;> first | (exfalso; omega; done) | exact absurd True.intro hb | ((conv => whnf); try simp only [gO, gWe, ne_eq, Nat.reduceEqDiff, not_false_eq_true, true_or, or_true, true_and])) | fail)
    exact f
  · have f := kk ρ hA r1
    clear kk gb
    refine gB_gG [57,128] 300 ?_
    (conv => whnf); try simp only [gO, gWe, ne_eq, Nat.reduceEqDiff, not_false_eq_true, true_or, or_true, true_and]
    repeat' (first | exact True.intro | (refine ⟨fun hb => ?_, fun hb => ?_⟩ <;> first | (exfalso; omega; done) | exact absurd True.intro hb | ((conv => whnf); try simp only [gO, gWe, ne_eq, Nat.reduceEqDiff, not_false_eq_true, true_or, or_true, true_and])) | (refine ⟨by omega, ?_⟩; (conv => whnf); try simp only [gO, gWe, ne_eq, Nat.reduceEqDiff, not_false_eq_true, true_or, or_true, true_and]) | (refine ⟨fun hb => ?_, ?_⟩ <;> first | (exfalso; omega; done) | exact absurd True.intro hb | ((conv => whnf); try simp only [gO, gWe, ne_eq, Nat.reduceEqDiff, not_false_eq_true, true_or, or_true, true_and])) | fail)
    exact f
