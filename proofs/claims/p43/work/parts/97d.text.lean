variable {sN : Int} {sX : Int → Int}
/-! texts -/
theorem p_108 {D : Nat} (hD : 36 ≤ D) {μ : MU} {Q : GQ} {a : Int} (c1 : 32 ≤ a ∧ a ≤ 126) (c2 : 0 ≤ (μ 36 1) ∧ (μ 36 1) < 100) (h : ∀ ν : MU, gFr [36, 37] μ ν → (∀ j : Int, j ≠ 1 → ν 36 j = μ 36 j) → ν 36 1 = (μ 36 1) + 1 → (ν 37) = gUp (μ 37) (μ 36 1) a → Q (some (gI ((μ 36 1) + 1))) g_SH ν) : gCall g_T g_F sN sX D 108 [gR 0, gI a] g_SH μ Q := by
  have f := h (gW (gW μ 37 (μ 36 1) a) 36 1 ((μ 36 1) + 1)) ((gFr.rf.W (by decide)).W (by decide)) (fun j hj => gWn _ _ _ hj) (gWe _ _ _ _) (gW_up : gW μ 37 (μ 36 1) a 37 = _)
  obtain ⟨d, rfl⟩ := gD (show 1 ≤ D by omega)
  refine gC 300 [] rfl ?_
  (conv => whnf); try simp only [gO, gWe, ne_eq, Nat.reduceEqDiff, not_false_eq_true, true_or, or_true, true_and]
  repeat' (first | exact True.intro | (refine ⟨fun hb => ?_, fun hb => ?_⟩ <;> first | (exfalso; omega; done) | exact absurd True.intro hb | ((conv => whnf); try simp only [gO, gWe, ne_eq, Nat.reduceEqDiff, not_false_eq_true, true_or, or_true, true_and])) | (refine ⟨by omega, ?_⟩; (conv => whnf); try simp only [gO, gWe, ne_eq, Nat.reduceEqDiff, not_false_eq_true, true_or, or_true, true_and]) | (refine ⟨fun hb => ?_, ?_⟩ <;> first | (exfalso; omega; done) | exact absurd True.intro hb | ((conv => whnf); try simp only [gO, gWe, ne_eq, Nat.reduceEqDiff, not_false_eq_true, true_or, or_true, true_and])) | fail)
  refine t_67 (by omega) (by omega) (by omega) ?_
  (conv => whnf); try simp only [gO, gWe, ne_eq, Nat.reduceEqDiff, not_false_eq_true, true_or, or_true, true_and]
  repeat' (first | exact True.intro | (refine ⟨fun hb => ?_, fun hb => ?_⟩ <;> first | (exfalso; omega; done) | exact absurd True.intro hb | ((conv => whnf); try simp only [gO, gWe, ne_eq, Nat.reduceEqDiff, not_false_eq_true, true_or, or_true, true_and])) | (refine ⟨by omega, ?_⟩; (conv => whnf); try simp only [gO, gWe, ne_eq, Nat.reduceEqDiff, not_false_eq_true, true_or, or_true, true_and]) | (refine ⟨fun hb => ?_, ?_⟩ <;> first | (exfalso; omega; done) | exact absurd True.intro hb | ((conv => whnf); try simp only [gO, gWe, ne_eq, Nat.reduceEqDiff, not_false_eq_true, true_or, or_true, true_and])) | fail)
  exact f
theorem p_108n {D : Nat} (hD : 36 ≤ D) {μ : MU} {Q : GQ} {a : Int} (c1 : ¬ (32 ≤ a ∧ a ≤ 126)) (h : Q (some (gI (-1))) g_SH μ) : gCall g_T g_F sN sX D 108 [gR 0, gI a] g_SH μ Q := by
  obtain ⟨d, rfl⟩ := gD (show 1 ≤ D by omega)
  refine gC 300 [] rfl ?_
  (conv => whnf); try simp only [gO, gWe, ne_eq, Nat.reduceEqDiff, not_false_eq_true, true_or, or_true, true_and]
  repeat' (first | exact True.intro | (refine ⟨fun hb => ?_, fun hb => ?_⟩ <;> first | (exfalso; omega; done) | exact absurd True.intro hb | ((conv => whnf); try simp only [gO, gWe, ne_eq, Nat.reduceEqDiff, not_false_eq_true, true_or, or_true, true_and])) | (refine ⟨by omega, ?_⟩; (conv => whnf); try simp only [gO, gWe, ne_eq, Nat.reduceEqDiff, not_false_eq_true, true_or, or_true, true_and]) | (refine ⟨fun hb => ?_, ?_⟩ <;> first | (exfalso; omega; done) | exact absurd True.intro hb | ((conv => whnf); try simp only [gO, gWe, ne_eq, Nat.reduceEqDiff, not_false_eq_true, true_or, or_true, true_and])) | fail)
  all_goals first | exact h | (exfalso; omega)
theorem p_109 {D : Nat} (hD : 36 ≤ D) {μ : MU} {Q : GQ} (h : ∀ ν : MU, gFr [36] μ ν → ν 36 1 = 0 → Q (some (gI ((μ 36 1)))) g_SH ν) : gCall g_T g_F sN sX D 109 [gR 0] g_SH μ Q := by
  have f := h (gW μ 36 1 0) (gFr.rf.W (by decide)) (gWe _ _ _ _)
  obtain ⟨d, rfl⟩ := gD (show 1 ≤ D by omega)
  refine gC 300 [] rfl ?_
  (conv => whnf); try simp only [gO, gWe, ne_eq, Nat.reduceEqDiff, not_false_eq_true, true_or, or_true, true_and]
  repeat' (first | exact True.intro | (refine ⟨fun hb => ?_, fun hb => ?_⟩ <;> first | (exfalso; omega; done) | exact absurd True.intro hb | ((conv => whnf); try simp only [gO, gWe, ne_eq, Nat.reduceEqDiff, not_false_eq_true, true_or, or_true, true_and])) | (refine ⟨by omega, ?_⟩; (conv => whnf); try simp only [gO, gWe, ne_eq, Nat.reduceEqDiff, not_false_eq_true, true_or, or_true, true_and]) | (refine ⟨fun hb => ?_, ?_⟩ <;> first | (exfalso; omega; done) | exact absurd True.intro hb | ((conv => whnf); try simp only [gO, gWe, ne_eq, Nat.reduceEqDiff, not_false_eq_true, true_or, or_true, true_and])) | fail)
  exact f
theorem p_110 {D : Nat} (hD : 36 ≤ D) {μ : MU} {Q : GQ} {K : Nat} {hr : Int → Int} (hh0 : pHr (μ 37) (μ 36 1) = hr) (hG : iG μ) (hT : hTx μ) (K1 : K ≤ 25) (hg : hGd hr (μ 1 0) (μ 36 1) K) (he : hEn hr (μ 1 0) (μ 36 1) K)
    (ko : (μ 36 1) ≤ pPo hr (μ 1 0) K → ∀ ν : MU, gFr [36] μ ν → ν 36 1 = μ 36 1 → Q (some (gI (-4))) g_SH ν)
    (kf : pPo hr (μ 1 0) K < (μ 36 1) → ¬ pOk hr (μ 1 0) (pPo hr (μ 1 0) K) → ∀ ν : MU, gFr [36] μ ν → ν 36 1 = μ 36 1 → Q (some (gI (pPs hr (μ 1 0) (pPo hr (μ 1 0) K)))) g_SH ν) : gCall g_T g_F sN sX D 110 [gR 0] g_SH μ Q := by
  have G := hG.1
  have T := hT.1
  have gb := fun (k : Nat) (hk : k ≤ K) => hGd_b hT G.1 k (fun j hj => by rw [hh0]; exact hg j (by omega))
  rw [hh0] at gb
  have pb := pPs_b (hr := hr) (n := (μ 1 0)) (p := pPo hr (μ 1 0) K) G.1
  have p0 := gb K (Nat.le_refl _)
  clear gb
  obtain ⟨d, rfl⟩ := gD (show 1 ≤ D by omega)
  refine gC 300 [] rfl ?_
  (conv => whnf); try simp only [gO, gWe, ne_eq, Nat.reduceEqDiff, not_false_eq_true, true_or, or_true, true_and]
  repeat' (first | exact True.intro | (refine ⟨fun hb => ?_, fun hb => ?_⟩ <;> first | (exfalso; omega; done) | exact absurd True.intro hb | ((conv => whnf); try simp only [gO, gWe, ne_eq, Nat.reduceEqDiff, not_false_eq_true, true_or, or_true, true_and])) | (refine ⟨by omega, ?_⟩; (conv => whnf); try simp only [gO, gWe, ne_eq, Nat.reduceEqDiff, not_false_eq_true, true_or, or_true, true_and]) | (refine ⟨fun hb => ?_, ?_⟩ <;> first | (exfalso; omega; done) | exact absurd True.intro hb | ((conv => whnf); try simp only [gO, gWe, ne_eq, Nat.reduceEqDiff, not_false_eq_true, true_or, or_true, true_and])) | fail)
  refine t_68 (by omega) hh0 hT (by omega) K1 hg he (fun c ν hν v1 v3 => ?_) (fun c d ν hν v1 => ?_)
  · have f := ko c ν hν v1
    clear ko kf
    (conv => whnf); try simp only [gO, gWe, ne_eq, Nat.reduceEqDiff, not_false_eq_true, true_or, or_true, true_and]
    repeat' (first | exact True.intro | (refine ⟨fun hb => ?_, fun hb => ?_⟩ <;> first | (exfalso; omega; done) | exact absurd True.intro hb | ((conv => whnf); try simp only [gO, gWe, ne_eq, Nat.reduceEqDiff, not_false_eq_true, true_or, or_true, true_and])) | (refine ⟨by omega, ?_⟩; (conv => whnf); try simp only [gO, gWe, ne_eq, Nat.reduceEqDiff, not_false_eq_true, true_or, or_true, true_and]) | (refine ⟨fun hb => ?_, ?_⟩ <;> first | (exfalso; omega; done) | exact absurd True.intro hb | ((conv => whnf); try simp only [gO, gWe, ne_eq, Nat.reduceEqDiff, not_false_eq_true, true_or, or_true, true_and])) | fail)
    exact f
  · have f := kf c d ν hν v1
    clear ko kf
    (conv => whnf); try simp only [gO, gWe, ne_eq, Nat.reduceEqDiff, not_false_eq_true, true_or, or_true, true_and]
    repeat' (first | exact True.intro | (refine ⟨fun hb => ?_, fun hb => ?_⟩ <;> first | (exfalso; omega; done) | exact absurd True.intro hb | ((conv => whnf); try simp only [gO, gWe, ne_eq, Nat.reduceEqDiff, not_false_eq_true, true_or, or_true, true_and])) | (refine ⟨by omega, ?_⟩; (conv => whnf); try simp only [gO, gWe, ne_eq, Nat.reduceEqDiff, not_false_eq_true, true_or, or_true, true_and]) | (refine ⟨fun hb => ?_, ?_⟩ <;> first | (exfalso; omega; done) | exact absurd True.intro hb | ((conv => whnf); try simp only [gO, gWe, ne_eq, Nat.reduceEqDiff, not_false_eq_true, true_or, or_true, true_and])) | fail)
    exact f
theorem p_111n {D : Nat} (hD : 36 ≤ D) {μ : MU} {Q : GQ} {K : Nat} {hr : Int → Int} (hh0 : pHr (μ 37) (μ 36 1) = hr) (hG : iG μ) (hT : hTx μ) (K1 : K ≤ 25) (hg : hGd hr (μ 1 0) (μ 36 1) K) (he : pPo hr (μ 1 0) K < (μ 36 1) ∧ ¬ pOk hr (μ 1 0) (pPo hr (μ 1 0) K))
    (kf : ∀ ν : MU, gFr [36] μ ν → ν 36 1 = μ 36 1 → Q (some (gI (-3))) g_SH ν) : gCall g_T g_F sN sX D 111 [gR 0] g_SH μ Q := by
  have G := hG.1
  have T := hT.1
  have gb := fun (k : Nat) (hk : k ≤ K) => hGd_b hT G.1 k (fun j hj => by rw [hh0]; exact hg j (by omega))
  rw [hh0] at gb
  have pb := pPs_b (hr := hr) (n := (μ 1 0)) (p := pPo hr (μ 1 0) K) G.1
  have p0 := gb K (Nat.le_refl _)
  clear gb
  obtain ⟨d, rfl⟩ := gD (show 1 ≤ D by omega)
  refine gC 300 [57] rfl ?_
  (conv => whnf); try simp only [gO, gWe, ne_eq, Nat.reduceEqDiff, not_false_eq_true, true_or, or_true, true_and]
  repeat' (first | exact True.intro | (refine ⟨fun hb => ?_, fun hb => ?_⟩ <;> first | (exfalso; omega; done) | exact absurd True.intro hb | ((conv => whnf); try simp only [gO, gWe, ne_eq, Nat.reduceEqDiff, not_false_eq_true, true_or, or_true, true_and])) | (refine ⟨by omega, ?_⟩; (conv => whnf); try simp only [gO, gWe, ne_eq, Nat.reduceEqDiff, not_false_eq_true, true_or, or_true, true_and]) | (refine ⟨fun hb => ?_, ?_⟩ <;> first | (exfalso; omega; done) | exact absurd True.intro hb | ((conv => whnf); try simp only [gO, gWe, ne_eq, Nat.reduceEqDiff, not_false_eq_true, true_or, or_true, true_and])) | fail)
  refine t_68 (by omega) hh0 hT (by omega) K1 hg (Or.inr he) (fun c ν hν v1 v3 => by omega) (fun c d ν hν v1 => ?_)
  have f := kf ν hν v1
  clear kf he
  (conv => whnf); try simp only [gO, gWe, ne_eq, Nat.reduceEqDiff, not_false_eq_true, true_or, or_true, true_and]
  repeat' (first | exact True.intro | (refine ⟨fun hb => ?_, fun hb => ?_⟩ <;> first | (exfalso; omega; done) | exact absurd True.intro hb | ((conv => whnf); try simp only [gO, gWe, ne_eq, Nat.reduceEqDiff, not_false_eq_true, true_or, or_true, true_and])) | (refine ⟨by omega, ?_⟩; (conv => whnf); try simp only [gO, gWe, ne_eq, Nat.reduceEqDiff, not_false_eq_true, true_or, or_true, true_and]) | (refine ⟨fun hb => ?_, ?_⟩ <;> first | (exfalso; omega; done) | exact absurd True.intro hb | ((conv => whnf); try simp only [gO, gWe, ne_eq, Nat.reduceEqDiff, not_false_eq_true, true_or, or_true, true_and])) | fail)
  exact f
theorem p_111 {D : Nat} (hD : 36 ≤ D) {μ : MU} {Q : GQ} {K : Nat} {hr : Int → Int} (hh0 : pHr (μ 37) (μ 36 1) = hr) (hG : iG μ) (hT : hTx μ) (g20 : K ≤ 20) (cE : (μ 1 1) + K ≤ 20) (hg : hGd hr (μ 1 0) (μ 36 1) K) (he : (μ 36 1) ≤ pPo hr (μ 1 0) K)
    (h : ∀ ρ ω : MU, hAd hr μ ρ K → gFr [0, 9, 10, 11, 12, 13, 14, 15, 16, 17, 18] ρ ω → ω 36 1 = μ 36 1 → iA ω → (ω 0 6) = 0 → Q (some (gI (K))) g_SH ω) : gCall g_T g_F sN sX D 111 [gR 0] g_SH μ Q := by
  have G := hG.1
  have T := hT.1
  obtain ⟨d, rfl⟩ := gD (show 1 ≤ D by omega)
  refine gC 300 [57] rfl ?_
  (conv => whnf); try simp only [gO, gWe, ne_eq, Nat.reduceEqDiff, not_false_eq_true, true_or, or_true, true_and]
  repeat' (first | exact True.intro | (refine ⟨fun hb => ?_, fun hb => ?_⟩ <;> first | (exfalso; omega; done) | exact absurd True.intro hb | ((conv => whnf); try simp only [gO, gWe, ne_eq, Nat.reduceEqDiff, not_false_eq_true, true_or, or_true, true_and])) | (refine ⟨by omega, ?_⟩; (conv => whnf); try simp only [gO, gWe, ne_eq, Nat.reduceEqDiff, not_false_eq_true, true_or, or_true, true_and]) | (refine ⟨fun hb => ?_, ?_⟩ <;> first | (exfalso; omega; done) | exact absurd True.intro hb | ((conv => whnf); try simp only [gO, gWe, ne_eq, Nat.reduceEqDiff, not_false_eq_true, true_or, or_true, true_and])) | fail)
  refine t_68 (by omega) hh0 hT (by omega) (by omega) hg (Or.inl he) (fun c ν hν v1 v3 => ?_) (fun c d ν hν v1 => by omega)
  have ve : ν 1 1 = (μ 1 1) := by rw [hν 1 (by decide)]
  have start : hAd hr μ (gW ν 36 2 0) 0 := ⟨(hν.mo (by decide)).W (by decide), ⟨by show ν 1 0 = μ 1 0; rw [hν 1 (by decide)], by show ν 1 1 = μ 1 1 + 0; rw [hν 1 (by decide)]; omega⟩, fun e e0 e1 => by
    show ν 4 e = _ ∧ ν 5 e = _ ∧ ν 6 e = _ ∧ ν 7 e = _ ∧ ν 8 e = _
    rw [hν 4 (by decide), hν 5 (by decide), hν 6 (by decide), hν 7 (by decide), hν 8 (by decide)]
    exact ⟨rfl, rfl, rfl, rfl, rfl⟩, fun j hj => by omega⟩
  have kkc : ∀ ρ : MU, hAd hr μ ρ K → ρ 36 1 = μ 36 1 → gG g_T g_F (gCall g_T g_F sN sX d) sN sX (g_T 111) Q 128 [gR 0, gI K, gI K] [] g_SH ρ 0 0 := by
    intro ρ hAd1 r1
    have hG1 := hAd_G hG cE hAd1 (fun k hk => (hg k hk).2)
    refine gB_gG [] 300 ?_
    (conv => whnf); try simp only [gO, gWe, ne_eq, Nat.reduceEqDiff, not_false_eq_true, true_or, or_true, true_and]
    refine t_116 (by omega) hG1 (fun ω hω hL l0 => ?_)
    have hG2 : iG ω := iG_f (hω 1 (by decide)) (hω 2 (by decide)) (hω 3 (by decide)) (hω 4 (by decide)) (hω 5 (by decide)) (hω 6 (by decide)) (hω 7 (by decide)) (hω 8 (by decide)) hG1
    have f := h ρ ω hAd1 hω (by rw [hω 36 (by decide)]; exact r1) (iA_0 hG2 hL l0) l0
    (conv => whnf); try simp only [gO, gWe, ne_eq, Nat.reduceEqDiff, not_false_eq_true, true_or, or_true, true_and]
    repeat' (first | exact True.intro | (refine ⟨fun hb => ?_, fun hb => ?_⟩ <;> first | (exfalso; omega; done) | exact absurd True.intro hb | ((conv => whnf); try simp only [gO, gWe, ne_eq, Nat.reduceEqDiff, not_false_eq_true, true_or, or_true, true_and])) | (refine ⟨by omega, ?_⟩; (conv => whnf); try simp only [gO, gWe, ne_eq, Nat.reduceEqDiff, not_false_eq_true, true_or, or_true, true_and]) | (refine ⟨fun hb => ?_, ?_⟩ <;> first | (exfalso; omega; done) | exact absurd True.intro hb | ((conv => whnf); try simp only [gO, gWe, ne_eq, Nat.reduceEqDiff, not_false_eq_true, true_or, or_true, true_and])) | fail)
    exact f
  have go := t_111L (d := d) (Q := Q) (sN := sN) (sX := sX) (by omega) (ρ₀ := μ) hh0 hT hG g20 cE hg kkc 0 (by omega) (by omega) (gW ν 36 2 0) start (by rw [gWn _ _ _ (by decide)]; exact v1) (by rw [gWe]; rfl)
  rw [← v3] at go
  clear he kkc start hg h
  (conv => whnf); try simp only [gO, gWe, ne_eq, Nat.reduceEqDiff, not_false_eq_true, true_or, or_true, true_and]
  repeat' (first | exact True.intro | (refine ⟨fun hb => ?_, fun hb => ?_⟩ <;> first | (exfalso; omega; done) | exact absurd True.intro hb | ((conv => whnf); try simp only [gO, gWe, ne_eq, Nat.reduceEqDiff, not_false_eq_true, true_or, or_true, true_and])) | (refine ⟨by omega, ?_⟩; (conv => whnf); try simp only [gO, gWe, ne_eq, Nat.reduceEqDiff, not_false_eq_true, true_or, or_true, true_and]) | (refine ⟨fun hb => ?_, ?_⟩ <;> first | (exfalso; omega; done) | exact absurd True.intro hb | ((conv => whnf); try simp only [gO, gWe, ne_eq, Nat.reduceEqDiff, not_false_eq_true, true_or, or_true, true_and])) | fail)
  exact go
/-! the law's text -/
theorem pNum1 {hr : Int → Int} {n b p c : Int} (h0 : hr p = 48 + c) (c0 : 0 ≤ c ∧ c ≤ 9) (h1 : ¬ (48 ≤ hr (p + 1) ∧ hr (p + 1) ≤ 57)) (hc : c < n ∧ c ≠ b) : pNum hr n b p = (c, p + 1) := by
  unfold pNum
  rw [h0, if_pos (by omega), if_neg (fun q => h1 q.2), if_pos (by omega)]
  rw [show 48 + c - 48 = c by omega]
theorem pNum0 {hr : Int → Int} {n b p c : Int} (h0 : hr p = 48 + c) (c0 : 0 ≤ c ∧ c ≤ 9) (h1 : ¬ (48 ≤ hr (p + 1) ∧ hr (p + 1) ≤ 57)) (hc : c = b) : pNum hr n b p = (-1, p) := by
  unfold pNum
  rw [h0, if_pos (by omega), if_neg (fun q => h1 q.2), if_neg (by omega)]
theorem pOpt1 {hr : Int → Int} {sg lo hi ot p c : Int} (h0 : hr p = sg) (h1 : hr (p + 1) = 48 + c) (hc : lo ≤ c ∧ c ≤ hi) : pOpt hr sg lo hi ot p = (c, p + 2) := by
  unfold pOpt
  rw [if_pos h0, h1, if_pos (by omega), show 48 + c - 48 = c by omega]
theorem pOpt0 {hr : Int → Int} {sg lo hi ot p : Int} (h0 : hr p ≠ sg) : pOpt hr sg lo hi ot p = (ot, p) := if_neg h0
/-- a.p>b=l;b>a; -/
def hTt (hr : Int → Int) (a b p l : Int) : Prop := (hr 0 = 48 + a ∧ hr 1 = 46 ∧ hr 2 = 48 + p ∧ hr 3 = 62 ∧ hr 4 = 48 + b ∧ hr 5 = 61 ∧ hr 6 = 48 + l ∧ hr 7 = 59) ∧ hr 8 = 48 + b ∧ hr 9 = 62 ∧ hr 10 = 48 + a ∧ hr 11 = 59
theorem tt_1 {hr : Int → Int} {n a b p l : Int} (h : hTt hr a b p l) (a0 : 0 ≤ a ∧ a < n) (b0 : 0 ≤ b ∧ b < n) (n9 : n ≤ 9) (hab : a ≠ b) (p0 : 0 ≤ p ∧ p ≤ 7) (l0 : 1 ≤ l ∧ l ≤ 3) : pE1 hr n 0 = (a, 1) ∧ pE2 hr n 0 = (p, 3) ∧ pE3 hr n 0 = (b, 5) ∧ pE4 hr n 0 = (0, 5) ∧ pE5 hr n 0 = (l, 7) ∧ pOk hr n 0 ∧ pPs hr n 0 = 8 := by
  obtain ⟨⟨h0, h1, h2, h3, h4, h5, h6, h7⟩, -⟩ := h
  have e1 : pE1 hr n 0 = (a, 1) := pNum1 h0 (by omega) (by show ¬ (48 ≤ hr 1 ∧ _); omega) (by omega)
  have e2 : pE2 hr n 0 = (p, 3) := by
    unfold pE2
    rw [e1]
    exact pOpt1 h1 h2 p0
  have e3 : pE3 hr n 0 = (b, 5) := by
    unfold pE3
    rw [e1, e2]
    exact pNum1 h4 (by omega) (by show ¬ (48 ≤ hr 5 ∧ hr 5 ≤ 57); omega) (by dsimp only; omega)
  have e4 : pE4 hr n 0 = (0, 5) := by
    unfold pE4
    rw [e3]
    exact pOpt0 (by dsimp only; omega)
  have e5 : pE5 hr n 0 = (l, 7) := by
    unfold pE5
    rw [e4]
    exact pOpt1 h5 h6 l0
  refine ⟨e1, e2, e3, e4, e5, ?_, ?_⟩
  · unfold pOk
    rw [e1, e2, e3, e4, e5]
    dsimp only
    omega
  · unfold pPs
    rw [e1, e2, e3, e4, e5]
    dsimp only
    rw [if_neg (by omega), if_neg (by omega), if_neg (by omega), if_neg (by omega), if_neg (by omega), if_neg (by omega), if_neg (by omega)]
    rfl
theorem tt_2 {hr : Int → Int} {n a b p l : Int} (h : hTt hr a b p l) (a0 : 0 ≤ a ∧ a < n) (b0 : 0 ≤ b ∧ b < n) (n9 : n ≤ 9) (hab : a ≠ b) : pE1 hr n 8 = (b, 9) ∧ pE2 hr n 8 = (0, 9) ∧ pE3 hr n 8 = (a, 11) ∧ pE4 hr n 8 = (0, 11) ∧ pE5 hr n 8 = (1, 11) ∧ pOk hr n 8 ∧ pPs hr n 8 = 12 := by
  obtain ⟨-, h8, h9, h10, h11⟩ := h
  have e1 : pE1 hr n 8 = (b, 9) := pNum1 h8 (by omega) (by show ¬ (48 ≤ hr 9 ∧ hr 9 ≤ 57); omega) (by omega)
  have e2 : pE2 hr n 8 = (0, 9) := by
    unfold pE2
    rw [e1]
    exact pOpt0 (by dsimp only; omega)
  have e3 : pE3 hr n 8 = (a, 11) := by
    unfold pE3
    rw [e1, e2]
    exact pNum1 h10 (by omega) (by show ¬ (48 ≤ hr 11 ∧ hr 11 ≤ 57); omega) (by dsimp only; omega)
  have e4 : pE4 hr n 8 = (0, 11) := by
    unfold pE4
    rw [e3]
    exact pOpt0 (by dsimp only; omega)
  have e5 : pE5 hr n 8 = (1, 11) := by
    unfold pE5
    rw [e4]
    exact pOpt0 (by dsimp only; omega)
  refine ⟨e1, e2, e3, e4, e5, ?_, ?_⟩
  · unfold pOk
    rw [e1, e2, e3, e4, e5]
    dsimp only
    omega
  · unfold pPs
    rw [e1, e2, e3, e4, e5]
    dsimp only
    rw [if_neg (by omega), if_neg (by omega), if_neg (by omega), if_neg (by omega), if_neg (by omega), if_neg (by omega), if_neg (by omega)]
    rfl
/-- a>a -/
theorem tt_3 {hr : Int → Int} {n a : Int} (h12 : hr 12 = 48 + a) (h13 : hr 13 = 62) (h14 : hr 14 = 48 + a) (h15 : hr 15 = 0) (a0 : 0 ≤ a ∧ a < n) (n9 : n ≤ 9) : ¬ pOk hr n 12 ∧ pPs hr n 12 = 14 := by
  have e1 : pE1 hr n 12 = (a, 13) := pNum1 h12 (by omega) (by show ¬ (48 ≤ hr 13 ∧ hr 13 ≤ 57); omega) (by omega)
  have e2 : pE2 hr n 12 = (0, 13) := by
    unfold pE2
    rw [e1]
    exact pOpt0 (by dsimp only; omega)
  have e3 : pE3 hr n 12 = (-1, 14) := by
    unfold pE3
    rw [e1, e2]
    exact pNum0 h14 (by omega) (by show ¬ (48 ≤ hr 15 ∧ hr 15 ≤ 57); omega) rfl
  refine ⟨fun q => ?_, ?_⟩
  · unfold pOk at q
    rw [e3] at q
    have := q.2.2.2.1
    dsimp only at this
    omega
  · unfold pPs
    rw [e1, e2, e3]
    dsimp only
    rw [if_neg (by omega), if_neg (by omega), if_neg (by omega), if_pos (by omega)]
theorem tt_P {hr : Int → Int} {n a b p l : Int} (h : hTt hr a b p l) (a0 : 0 ≤ a ∧ a < n) (b0 : 0 ≤ b ∧ b < n) (n9 : n ≤ 9) (hab : a ≠ b) (p0 : 0 ≤ p ∧ p ≤ 7) (l0 : 1 ≤ l ∧ l ≤ 3) : pPo hr n 0 = 0 ∧ pPo hr n 1 = 8 ∧ pPo hr n 2 = 12 ∧ ∀ ln : Int, 12 ≤ ln → hGd hr n ln 2 := by
  have t1 := tt_1 h a0 b0 n9 hab p0 l0
  have t2 := tt_2 h a0 b0 n9 hab
  have q1 : pPo hr n 1 = 8 := t1.2.2.2.2.2.2
  have q2 : pPo hr n 2 = 12 := by
    show pPs hr n (pPo hr n 1) = 12
    rw [q1]
    exact t2.2.2.2.2.2.2
  refine ⟨rfl, q1, q2, fun ln hl k hk => ?_⟩
  rcases (show k = 0 ∨ k = 1 by omega) with rfl | rfl
  · exact ⟨by show (0 : Int) < ln; omega, t1.2.2.2.2.2.1⟩
  · rw [q1]
    exact ⟨by omega, t2.2.2.2.2.2.1⟩
