/-! the case read -/
def hAd (hr : Int → Int) (μ ρ : MU) (i : Int) : Prop := gFr [1, 4, 5, 6, 7, 8, 36] μ ρ ∧ ((ρ 1 0) = (μ 1 0) ∧ (ρ 1 1) = (μ 1 1) + i) ∧ (∀ e : Int, 0 ≤ e → e < (μ 1 1) → (ρ 4) e = (μ 4) e ∧ (ρ 5) e = (μ 5) e ∧ (ρ 6) e = (μ 6) e ∧ (ρ 7) e = (μ 7) e ∧ (ρ 8) e = (μ 8) e) ∧
  ∀ j : Nat, (j : Int) < i → (ρ 4) ((μ 1 1) + j) = (pE1 hr (μ 1 0) (pPo hr (μ 1 0) j)).1 ∧ (ρ 5) ((μ 1 1) + j) = (pE3 hr (μ 1 0) (pPo hr (μ 1 0) j)).1 ∧ (ρ 6) ((μ 1 1) + j) = (pE2 hr (μ 1 0) (pPo hr (μ 1 0) j)).1 ∧ (ρ 7) ((μ 1 1) + j) = (pE4 hr (μ 1 0) (pPo hr (μ 1 0) j)).1 ∧ (ρ 8) ((μ 1 1) + j) = (pE5 hr (μ 1 0) (pPo hr (μ 1 0) j)).1
theorem hAd_s {hr : Int → Int} {μ ρ ν : MU} {i : Int} (hG : iG μ) (i0 : 0 ≤ i) (h : hAd hr μ ρ i) (hν : gFr [36] ρ ν) (hv : ν 36 4 = (pE1 hr (μ 1 0) (pPo hr (μ 1 0) i.toNat)).1 ∧ ν 36 5 = (pE3 hr (μ 1 0) (pPo hr (μ 1 0) i.toNat)).1 ∧ ν 36 6 = (pE2 hr (μ 1 0) (pPo hr (μ 1 0) i.toNat)).1 ∧ ν 36 7 = (pE4 hr (μ 1 0) (pPo hr (μ 1 0) i.toNat)).1 ∧ ν 36 8 = (pE5 hr (μ 1 0) (pPo hr (μ 1 0) i.toNat)).1) :
    hAd hr μ (gW (gW (gW (gW (gW (gW ν 4 (ν 1 1) (ν 36 4)) 5 (ν 1 1) (ν 36 5)) 6 (ν 1 1) (ν 36 6)) 7 (ν 1 1) (ν 36 7)) 8 (ν 1 1) (ν 36 8)) 1 1 ((ν 1 1) + 1)) (i + 1) := by
  obtain ⟨h1, h2, h3, h4⟩ := h
  have G := hG.1
  have e1 : (ν 1 1) = (μ 1 1) + i := by rw [hν 1 (by decide)]; exact h2.2
  have e0 : (ν 1 0) = (μ 1 0) := by rw [hν 1 (by decide)]; exact h2.1
  have c4 : ν 4 = ρ 4 := hν 4 (by decide)
  have c5 : ν 5 = ρ 5 := hν 5 (by decide)
  have c6 : ν 6 = ρ 6 := hν 6 (by decide)
  have c7 : ν 7 = ρ 7 := hν 7 (by decide)
  have c8 : ν 8 = ρ 8 := hν 8 (by decide)
  refine ⟨((((((h1.tr (hν.mo (by decide))).W (by decide)).W (by decide)).W (by decide)).W (by decide)).W (by decide)).W (by decide), ⟨?_, ?_⟩, fun e e0 e1 => ?_, fun j hj => ?_⟩
  · rw [gWn _ _ _ (by decide)]; exact e0
  · rw [gWe]; omega
  · show gW ν 4 _ _ 4 e = _ ∧ gW (gW ν 4 _ _) 5 _ _ 5 e = _ ∧ gW (gW (gW ν 4 _ _) 5 _ _) 6 _ _ 6 e = _ ∧ gW (gW (gW (gW ν 4 _ _) 5 _ _) 6 _ _) 7 _ _ 7 e = _ ∧ gW (gW (gW (gW (gW ν 4 _ _) 5 _ _) 6 _ _) 7 _ _) 8 _ _ 8 e = _
    rw [gWn _ _ _ (by omega), gWn _ _ _ (by omega), gWn _ _ _ (by omega), gWn _ _ _ (by omega), gWn _ _ _ (by omega)]
    show ν 4 e = _ ∧ ν 5 e = _ ∧ ν 6 e = _ ∧ ν 7 e = _ ∧ ν 8 e = _
    rw [c4, c5, c6, c7, c8]
    exact h3 e e0 e1
  · show gW ν 4 _ _ 4 ((μ 1 1) + j) = _ ∧ gW (gW ν 4 _ _) 5 _ _ 5 ((μ 1 1) + j) = _ ∧ gW (gW (gW ν 4 _ _) 5 _ _) 6 _ _ 6 ((μ 1 1) + j) = _ ∧ gW (gW (gW (gW ν 4 _ _) 5 _ _) 6 _ _) 7 _ _ 7 ((μ 1 1) + j) = _ ∧ gW (gW (gW (gW (gW ν 4 _ _) 5 _ _) 6 _ _) 7 _ _) 8 _ _ 8 ((μ 1 1) + j) = _
    by_cases c : (j : Int) = i
    · rw [show (μ 1 1) + (j : Int) = (ν 1 1) by omega, gWe, gWe, gWe, gWe, gWe, show j = i.toNat by omega]
      exact ⟨hv.1, hv.2.1, hv.2.2.1, hv.2.2.2.1, hv.2.2.2.2⟩
    · rw [gWn _ _ _ (by omega), gWn _ _ _ (by omega), gWn _ _ _ (by omega), gWn _ _ _ (by omega), gWn _ _ _ (by omega)]
      show ν 4 _ = _ ∧ ν 5 _ = _ ∧ ν 6 _ = _ ∧ ν 7 _ = _ ∧ ν 8 _ = _
      rw [c4, c5, c6, c7, c8]
      exact h4 j (by omega)
theorem hAd_G {hr : Int → Int} {μ ρ : MU} {K : Nat} (hG : iG μ) (hE20 : (μ 1 1) + K ≤ 20) (h : hAd hr μ ρ K) (hg : ∀ k : Nat, k < K → pOk hr (μ 1 0) (pPo hr (μ 1 0) k)) : iG ρ := by
  obtain ⟨h1, h2, h3, h4⟩ := h
  have G := hG.1
  refine ⟨by omega, fun i i0 i1 => ?_, fun e e0 e1 => ?_⟩
  · rw [h1 2 (by decide), h1 3 (by decide)]; exact hG.2.1 i i0 (by omega)
  · by_cases c : e < (μ 1 1)
    · have a := h3 e e0 c
      have b := hG.2.2 e e0 c
      omega
    · have a := h4 (e - (μ 1 1)).toNat (by omega)
      rw [show (μ 1 1) + (((e - (μ 1 1)).toNat : Nat) : Int) = e by omega] at a
      have o := hg (e - (μ 1 1)).toNat (by omega)
      have vv := pE_v (hr := hr) (n := (μ 1 0)) (p := pPo hr (μ 1 0) (e - (μ 1 1)).toNat) (by omega)
      obtain ⟨o1, o2, o3, o4, o5, o6, o7⟩ := o
      have v1 := vv.1.2 o1
      have v3 := vv.2.2.1.2 o4
      have v5 := vv.2.2.2.2
      omega
theorem t_111L {d : Nat} (hd : 25 ≤ d) {μ ρ₀ : MU} {Q : GQ} {K : Nat} {hr : Int → Int} (hh0 : pHr (μ 37) (μ 36 1) = hr) (hT : hTx μ) (hG : iG μ) (K1 : K ≤ 20) (hE20 : (μ 1 1) + K ≤ 20) (hg : hGd hr (μ 1 0) (μ 36 1) K)
    (kk : ∀ ρ : MU, hAd hr μ ρ K → ρ 36 1 = μ 36 1 → gG g_T g_F (gCall g_T g_F d) 0 (fun _ => 0) (g_T 111) Q 128 [gR 0, gI K, gI K] [] g_SH ρ 0 0) : ∀ i : Int, 0 ≤ i → i ≤ K → ∀ ρ : MU, hAd hr μ ρ i → ρ 36 1 = μ 36 1 → ρ 36 2 = pPo hr (μ 1 0) i.toNat → gG g_T g_F (gCall g_T g_F d) 0 (fun _ => 0) (g_T 111) Q 57 [gR 0, gI K, gI i] [] g_SH ρ 0 0 := by
  have G := hG.1
  have T := hT.1
  have gb := fun (k : Nat) (hk : k ≤ K) => (by
    have := hGd_b hT (show 0 ≤ (μ 1 0) by omega) k (by rw [hh0]; exact fun j hj => hg j (by omega))
    rw [hh0] at this
    exact this : 4 * (k : Int) ≤ pPo hr (μ 1 0) k ∧ pPo hr (μ 1 0) k ≤ (μ 36 1))
  refine g_up (fun i i0 i1 ih ρ hA r1 r2 => ?_) (fun ρ hA r1 r2 => ?_)
  · have b := gb i.toNat (by omega)
    have g := hg i.toNat (by omega)
    have tx := hT_c r1 (hA.1 37 (by decide)) hT
    have e2 := hA.2.1
    have j := fun ν (hν : gFr [36] ρ ν) (n1 : ν 36 1 = ρ 36 1) (n2 : ν 36 2 = pPs hr (μ 1 0) (pPo hr (μ 1 0) i.toNat)) hv => ih _ (hAd_s hG i0 hA (ν := ν) hν hv) (n1.trans r1) (by
      rw [show (i + 1).toNat = i.toNat + 1 by omega]
      exact (n2 : ν 36 2 = pPs hr (μ 1 0) (pPo hr (μ 1 0) i.toNat)))
    clear ih kk gb
    refine gB_gG [57] 300 ?_
    (conv => whnf); try simp only [gO, gWe, ne_eq, Nat.reduceEqDiff, not_false_eq_true, true_or, or_true, true_and]
    repeat' (first | exact True.intro | (refine ⟨fun hb => ?_, fun hb => ?_⟩ <;> first | (exfalso; omega; done) | exact absurd True.intro hb | ((conv => whnf); try simp only [gO, gWe, ne_eq, Nat.reduceEqDiff, not_false_eq_true, true_or, or_true, true_and])) | (refine ⟨by omega, ?_⟩; (conv => whnf); try simp only [gO, gWe, ne_eq, Nat.reduceEqDiff, not_false_eq_true, true_or, or_true, true_and]) | (refine ⟨fun hb => ?_, ?_⟩ <;> first | (exfalso; omega; done) | exact absurd True.intro hb | ((conv => whnf); try simp only [gO, gWe, ne_eq, Nat.reduceEqDiff, not_false_eq_true, true_or, or_true, true_and])) | fail)
    rw [e2.1]
    refine t_69 (by omega) (tx.2.trans hh0) tx.1 r2 (by omega) (by omega) (fun _ ν hν n2 n3 => ?_) (fun c => absurd g.2 c)
    have f := j ν hν.1 hν.2.1 n2 n3
    have e3 : (ν 1 1) = (μ 1 1) + i := by rw [hν.1 1 (by decide)]; exact e2.2
    clear j n3
    (conv => whnf); try simp only [gO, gWe, ne_eq, Nat.reduceEqDiff, not_false_eq_true, true_or, or_true, true_and]
    repeat' (first | exact True.intro | (refine ⟨fun hb => ?_, fun hb => ?_⟩ <;> first | (exfalso; omega; done) | exact absurd True.intro hb | ((conv => whnf); try simp only [gO, gWe, ne_eq, Nat.reduceEqDiff, not_false_eq_true, true_or, or_true, true_and])) | (refine ⟨by omega, ?_⟩; (conv => whnf); try simp only [gO, gWe, ne_eq, Nat.reduceEqDiff, not_false_eq_true, true_or, or_true, true_and]) | (refine ⟨fun hb => ?_, ?_⟩ <;> first | (exfalso; omega; done) | exact absurd True.intro hb | ((conv => whnf); try simp only [gO, gWe, ne_eq, Nat.reduceEqDiff, not_false_eq_true, true_or, or_true, true_and])) | fail)
    refine t_16 (by omega) (by omega) ?_
    (conv => whnf); try simp only [gO, gWe, ne_eq, Nat.reduceEqDiff, not_false_eq_true, true_or, or_true, true_and]
    repeat' (first | exact True.intro | (refine ⟨fun hb => ?_, fun hb => ?_⟩ <;> first | (exfalso; omega; done) | exact absurd True.intro hb | ((conv => whnf); try simp only [gO, gWe, ne_eq, Nat.reduceEqDiff, not_false_eq_true, true_or, or_true, true_and])) | (refine ⟨by omega, ?_⟩; (conv => whnf); try simp only [gO, gWe, ne_eq, Nat.reduceEqDiff, not_false_eq_true, true_or, or_true, true_and]) | (refine ⟨fun hb => ?_, ?_⟩ <;> first | (exfalso; omega; done) | exact absurd True.intro hb | ((conv => whnf); try simp only [gO, gWe, ne_eq, Nat.reduceEqDiff, not_false_eq_true, true_or, or_true, true_and])) | fail)
    exact f
  · have f := kk ρ hA r1
    clear kk gb
    refine gB_gG [57,128] 300 ?_
    (conv => whnf); try simp only [gO, gWe, ne_eq, Nat.reduceEqDiff, not_false_eq_true, true_or, or_true, true_and]
    repeat' (first | exact True.intro | (refine ⟨fun hb => ?_, fun hb => ?_⟩ <;> first | (exfalso; omega; done) | exact absurd True.intro hb | ((conv => whnf); try simp only [gO, gWe, ne_eq, Nat.reduceEqDiff, not_false_eq_true, true_or, or_true, true_and])) | (refine ⟨by omega, ?_⟩; (conv => whnf); try simp only [gO, gWe, ne_eq, Nat.reduceEqDiff, not_false_eq_true, true_or, or_true, true_and]) | (refine ⟨fun hb => ?_, ?_⟩ <;> first | (exfalso; omega; done) | exact absurd True.intro hb | ((conv => whnf); try simp only [gO, gWe, ne_eq, Nat.reduceEqDiff, not_false_eq_true, true_or, or_true, true_and])) | fail)
    exact f
theorem t_221L {d : Nat} (hd : 10 ≤ d) {ρ₀ : MU} {Q : GQ} {m : Int} {K : Nat} {v : Nat → Int → Int} (h22 : ρ₀ 61 22 = K) (hm : ρ₀ 62 1 = m) (m0 : 0 ≤ m) (mK : m + K ≤ 20) (ht : ∀ k : Nat, k < K → ∀ w : Int, 0 ≤ w → w ≤ 4 → ρ₀ 80 (5 * (k : Int) + w) = v k w)
    (kk : ∀ ρ : MU, gFr [62] ρ₀ ρ → ρ 62 1 = m + K → (∀ k : Int, k ≠ 1 → ¬ (29 + 5 * m ≤ k ∧ k ≤ 28 + 5 * (m + K)) → ρ 62 k = ρ₀ 62 k) → (∀ j : Nat, j < K → ρ 62 (29 + 5 * (m + j) + 0) = v j 0 ∧ ρ 62 (29 + 5 * (m + j) + 1) = v j 1 ∧ ρ 62 (29 + 5 * (m + j) + 2) = v j 2 ∧ ρ 62 (29 + 5 * (m + j) + 3) = v j 3 ∧ ρ 62 (29 + 5 * (m + j) + 4) = v j 4) → gG g_T g_F (gCall g_T g_F d) 0 (fun _ => 0) (g_T 221) Q 97 [gR 61, gI K] [] g_SH ρ 0 0) : ∀ i : Int, 0 ≤ i → i ≤ K → ∀ ρ : MU, gFr [62] ρ₀ ρ → ρ 62 1 = m + i → (∀ k : Int, k ≠ 1 → ¬ (29 + 5 * m ≤ k ∧ k ≤ 28 + 5 * (m + i)) → ρ 62 k = ρ₀ 62 k) → (∀ j : Nat, (j : Int) < i → ρ 62 (29 + 5 * (m + j) + 0) = v j 0 ∧ ρ 62 (29 + 5 * (m + j) + 1) = v j 1 ∧ ρ 62 (29 + 5 * (m + j) + 2) = v j 2 ∧ ρ 62 (29 + 5 * (m + j) + 3) = v j 3 ∧ ρ 62 (29 + 5 * (m + j) + 4) = v j 4) → gG g_T g_F (gCall g_T g_F d) 0 (fun _ => 0) (g_T 221) Q 31 [gR 61, gI i] [] g_SH ρ 0 0 := by
  refine g_up (fun i i0 i1 ih ρ hρ r1 rk rj => ?_) (fun ρ hρ r1 rk rj => ?_)
  · have t22 : ρ 61 22 = K := by rw [hρ 61 (by decide)]; exact h22
    have j := ih
    have ei : ((i.toNat : Nat) : Int) = i := by omega
    have hv := ht i.toNat (by omega)
    rw [ei] at hv
    have e80 : ρ 80 = ρ₀ 80 := hρ 80 (by decide)
    rw [← e80] at hv
    have v0 := hv 0 (by omega) (by omega)
    have v1 := hv 1 (by omega) (by omega)
    have v2 := hv 2 (by omega) (by omega)
    have v3 := hv 3 (by omega) (by omega)
    have v4 := hv 4 (by omega) (by omega)
    rw [Int.add_zero] at v0
    clear ih kk ht hv
    refine gB_gG [31] 300 ?_
    (conv => whnf); try simp only [gO, gWe, ne_eq, Nat.reduceEqDiff, not_false_eq_true, true_or, or_true, true_and]
    repeat' (first | exact True.intro | (refine ⟨fun hb => ?_, fun hb => ?_⟩ <;> first | (exfalso; omega; done) | exact absurd True.intro hb | ((conv => whnf); try simp only [gO, gWe, ne_eq, Nat.reduceEqDiff, not_false_eq_true, true_or, or_true, true_and])) | (refine ⟨by omega, ?_⟩; (conv => whnf); try simp only [gO, gWe, ne_eq, Nat.reduceEqDiff, not_false_eq_true, true_or, or_true, true_and]) | (refine ⟨fun hb => ?_, ?_⟩ <;> first | (exfalso; omega; done) | exact absurd True.intro hb | ((conv => whnf); try simp only [gO, gWe, ne_eq, Nat.reduceEqDiff, not_false_eq_true, true_or, or_true, true_and])) | fail)
    refine t_133 (by omega) (by omega) (fun ν hν n1 nv nk => ?_)
    have f := j ν (hρ.tr hν) (by omega) (fun k k1 k2 => by rw [nk k k1 (by omega)]; exact rk k k1 (by omega)) (fun q hq => by
      by_cases c : q = i.toNat
      · rw [c, ei]
        rw [r1, v0, v1, v2, v3, v4] at nv
        exact nv
      · have h := rj q (by omega)
        rw [nk _ (by omega) (by omega), nk _ (by omega) (by omega), nk _ (by omega) (by omega), nk _ (by omega) (by omega), nk _ (by omega) (by omega)]
        exact h)
    clear j nk nv rk rj
    (conv => whnf); try simp only [gO, gWe, ne_eq, Nat.reduceEqDiff, not_false_eq_true, true_or, or_true, true_and]
    repeat' (first | exact True.intro | (refine ⟨fun hb => ?_, fun hb => ?_⟩ <;> first | (exfalso; omega; done) | exact absurd True.intro hb | ((conv => whnf); try simp only [gO, gWe, ne_eq, Nat.reduceEqDiff, not_false_eq_true, true_or, or_true, true_and])) | (refine ⟨by omega, ?_⟩; (conv => whnf); try simp only [gO, gWe, ne_eq, Nat.reduceEqDiff, not_false_eq_true, true_or, or_true, true_and]) | (refine ⟨fun hb => ?_, ?_⟩ <;> first | (exfalso; omega; done) | exact absurd True.intro hb | ((conv => whnf); try simp only [gO, gWe, ne_eq, Nat.reduceEqDiff, not_false_eq_true, true_or, or_true, true_and])) | fail)
    exact f
  · have t22 : ρ 61 22 = K := by rw [hρ 61 (by decide)]; exact h22
    have f := kk ρ hρ r1 rk (fun j hj => rj j (by omega))
    clear kk ht rk rj
    refine gB_gG [31,97] 300 ?_
    (conv => whnf); try simp only [gO, gWe, ne_eq, Nat.reduceEqDiff, not_false_eq_true, true_or, or_true, true_and]
    repeat' (first | exact True.intro | (refine ⟨fun hb => ?_, fun hb => ?_⟩ <;> first | (exfalso; omega; done) | exact absurd True.intro hb | ((conv => whnf); try simp only [gO, gWe, ne_eq, Nat.reduceEqDiff, not_false_eq_true, true_or, or_true, true_and])) | (refine ⟨by omega, ?_⟩; (conv => whnf); try simp only [gO, gWe, ne_eq, Nat.reduceEqDiff, not_false_eq_true, true_or, or_true, true_and]) | (refine ⟨fun hb => ?_, ?_⟩ <;> first | (exfalso; omega; done) | exact absurd True.intro hb | ((conv => whnf); try simp only [gO, gWe, ne_eq, Nat.reduceEqDiff, not_false_eq_true, true_or, or_true, true_and])) | fail)
    exact f
theorem c_111 {D : Nat} (hD : 30 ≤ D) {μ : MU} (hA : iAll μ) : hCs D 111 221 [] μ := by
  intro Q Q' h h'
  have hG := hA.1.1
  have G := hG.1
  obtain ⟨hT, hMT⟩ := iT_h hA.2.2.2.1
  have n12 : 0 ≤ (μ 1 0) ∧ (μ 1 0) ≤ 12 := by omega
  obtain ⟨K, K1, hg, he⟩ := hK_x hT (n := (μ 1 0)) n12.1
  obtain ⟨hr, hh0⟩ : ∃ hr, pHr (μ 37) (μ 36 1) = hr := ⟨_, rfl⟩
  have gb := fun (k : Nat) (hk : k ≤ K) => hGd_b hT n12.1 k (fun j hj => hg j (by omega))
  rw [hh0] at hg he hMT gb
  have T := hT.1
  have mlen : (μ 61 4) = (μ 36 1) := hA.2.2.2.1.2.1
  have M := hA.2.1.1
  have z0 : μ 62 0 = (μ 1 0) := M.1.1
  have z1 : μ 62 1 = (μ 1 1) := M.1.2
  have m9 := hA.2.1.2.1.2
  have fin : ∀ ν τ : MU, gFr [36] μ ν → ν 36 1 = μ 36 1 → gFr [61, 80] ν τ → (∀ j : Int, j ≠ 20 → j ≠ 22 → τ 61 j = ν 61 j) → iAll τ := fun ν τ h1 h2 h3 h4 => fin_t hA ((h1.mo (by decide)).tr (h3.mo (by decide))) (by rw [h4 5 (by decide) (by decide), h1 61 (by decide)]) (iT_c (by rw [h3 36 (by decide)]; exact h2) (by rw [h3 37 (by decide), h1 37 (by decide)]) (by rw [h4 4 (by decide) (by decide), h1 61 (by decide)]) (by rw [h3 65 (by decide), h1 65 (by decide)]) hA.2.2.2.1)
  obtain ⟨d, rfl⟩ := gD (show 1 ≤ D by omega)
  refine gC 300 [57] rfl ?_
  (conv => whnf); try simp only [gO, gWe, ne_eq, Nat.reduceEqDiff, not_false_eq_true, true_or, or_true, true_and]
  repeat' (first | exact True.intro | (refine ⟨fun hb => ?_, fun hb => ?_⟩ <;> first | (exfalso; omega; done) | exact absurd True.intro hb | ((conv => whnf); try simp only [gO, gWe, ne_eq, Nat.reduceEqDiff, not_false_eq_true, true_or, or_true, true_and])) | (refine ⟨by omega, ?_⟩; (conv => whnf); try simp only [gO, gWe, ne_eq, Nat.reduceEqDiff, not_false_eq_true, true_or, or_true, true_and]) | (refine ⟨fun hb => ?_, ?_⟩ <;> first | (exfalso; omega; done) | exact absurd True.intro hb | ((conv => whnf); try simp only [gO, gWe, ne_eq, Nat.reduceEqDiff, not_false_eq_true, true_or, or_true, true_and])) | fail)
  refine t_68 (by omega) hh0 hT n12 K1 hg he (fun c ν hν v1 v3 => ?_) (fun c d ν hν v1 => ?_)
  · have mt : hMt ν hr := hMt_c (by rw [hν 61 (by decide)]) (hν 65 (by decide)) hMT
    have ml : (ν 61 4) = (μ 36 1) := by rw [hν 61 (by decide)]; exact mlen
    have ve : ν 1 1 = (μ 1 1) := by rw [hν 1 (by decide)]
    by_cases cE : (μ 1 1) + K ≤ 20
    · have g20 : K ≤ 20 := by omega
      have start : hAd hr μ (gW ν 36 2 0) 0 := ⟨(hν.mo (by decide)).W (by decide), ⟨by show ν 1 0 = μ 1 0; rw [hν 1 (by decide)], by show ν 1 1 = μ 1 1 + 0; rw [hν 1 (by decide)]; omega⟩, fun e e0 e1 => by
        show ν 4 e = _ ∧ ν 5 e = _ ∧ ν 6 e = _ ∧ ν 7 e = _ ∧ ν 8 e = _
        rw [hν 4 (by decide), hν 5 (by decide), hν 6 (by decide), hν 7 (by decide), hν 8 (by decide)]
        exact ⟨rfl, rfl, rfl, rfl, rfl⟩, fun j hj => by omega⟩
      have kkc : ∀ ρ : MU, hAd hr μ ρ K → ρ 36 1 = μ 36 1 → gG g_T g_F (gCall g_T g_F d) 0 (fun _ => 0) (g_T 111) Q 128 [gR 0, gI K, gI K] [] g_SH ρ 0 0 := by
        intro ρ hAd1 r1
        have hG1 := hAd_G hG cE hAd1 (fun k hk => (hg k hk).2)
        refine gB_gG [] 300 ?_
        (conv => whnf); try simp only [gO, gWe, ne_eq, Nat.reduceEqDiff, not_false_eq_true, true_or, or_true, true_and]
        refine t_116 (by omega) hG1 (fun ω hω hL l0 => ?_)
        have fω : gFr [0, 1, 4, 5, 6, 7, 8, 9, 10, 11, 12, 13, 14, 15, 16, 17, 18, 36] μ ω := (hAd1.1.mo (by decide)).tr (hω.mo (by decide))
        have mtω : hMt ω hr := hMt_c (by rw [fω 61 (by decide)]) (fω 65 (by decide)) hMT
        have mlω : ω 61 4 = (μ 36 1) := by rw [fω 61 (by decide)]; exact mlen
        have e62 : ω 62 = μ 62 := fω 62 (by decide)
        have hG2 : iG ω := iG_f (hω 1 (by decide)) (hω 2 (by decide)) (hω 3 (by decide)) (hω 4 (by decide)) (hω 5 (by decide)) (hω 6 (by decide)) (hω 7 (by decide)) (hω 8 (by decide)) hG1
        (conv => whnf); try simp only [gO, gWe, ne_eq, Nat.reduceEqDiff, not_false_eq_true, true_or, or_true, true_and]
        repeat' (first | exact True.intro | (refine ⟨fun hb => ?_, fun hb => ?_⟩ <;> first | (exfalso; omega; done) | exact absurd True.intro hb | ((conv => whnf); try simp only [gO, gWe, ne_eq, Nat.reduceEqDiff, not_false_eq_true, true_or, or_true, true_and])) | (refine ⟨by omega, ?_⟩; (conv => whnf); try simp only [gO, gWe, ne_eq, Nat.reduceEqDiff, not_false_eq_true, true_or, or_true, true_and]) | (refine ⟨fun hb => ?_, ?_⟩ <;> first | (exfalso; omega; done) | exact absurd True.intro hb | ((conv => whnf); try simp only [gO, gWe, ne_eq, Nat.reduceEqDiff, not_false_eq_true, true_or, or_true, true_and])) | fail)
        refine h _ ω ?_
        refine gC 300 [31] rfl ?_
        (conv => whnf); try simp only [gO, gWe, ne_eq, Nat.reduceEqDiff, not_false_eq_true, true_or, or_true, true_and]
        refine t_219 (by omega) (K := K) mtω (by rw [e62]; exact z0) n12 K1 (fun k hk => by have := gb k hk; omega) (by rw [mlω]; exact hg) (by rw [mlω]; exact he) (fun _ τ hτ w1 w22 wt => ?_) (fun c2 => by omega)
        have y1 : τ 62 1 = (μ 1 1) := by rw [hτ 62 (by decide), e62]; exact z1
        have go := t_221L (d := d) (Q := Q' K) (by omega) (m := (μ 1 1)) (K := K) (ρ₀ := τ) (v := fun k w => if w = 0 then (pE1 hr (μ 1 0) (pPo hr (μ 1 0) k)).1 else if w = 1 then (pE3 hr (μ 1 0) (pPo hr (μ 1 0) k)).1 else if w = 2 then (pE2 hr (μ 1 0) (pPo hr (μ 1 0) k)).1 else if w = 3 then (pE4 hr (μ 1 0) (pPo hr (μ 1 0) k)).1 else (pE5 hr (μ 1 0) (pPo hr (μ 1 0) k)).1) w22 y1 (by omega) cE (fun k hk w w0 w4 => by
          have a := wt k hk
          rcases (show w = 0 ∨ w = 1 ∨ w = 2 ∨ w = 3 ∨ w = 4 by omega) with z | z | z | z | z <;> subst z
          · rw [Int.add_zero]; exact a.1
          · exact a.2.1
          · exact a.2.2.1
          · exact a.2.2.2.1
          · exact a.2.2.2.2) (fun ρ2 h2 n1 nk nj => by
          have fin2 : iAll (gW (gW ρ2 62 2 0) 61 5 0) := by
            have k62 : ∀ k : Int, k ≠ 2 → (gW (gW ρ2 62 2 0) 61 5 0) 62 k = ρ2 62 k := fun k hk => (gWn _ _ _ hk : gW ρ2 62 2 0 62 k = ρ2 62 k)
            have o62 : ∀ k : Int, k ≠ 1 → k ≠ 2 → ¬ (29 + 5 * (μ 1 1) ≤ k ∧ k ≤ 28 + 5 * ((μ 1 1) + K)) → (gW (gW ρ2 62 2 0) 61 5 0) 62 k = μ 62 k := fun k k1 k2 k3 => by rw [k62 k k2, nk k k1 k3, hτ 62 (by decide), e62]
            have fr : ∀ c : Nat, c ∉ [61, 62, 80] → (gW (gW ρ2 62 2 0) 61 5 0) c = ω c := fun c hc => by
              simp only [List.mem_cons, List.not_mem_nil, or_false] at hc
              have q1 : (gW (gW ρ2 62 2 0) 61 5 0) c = ρ2 c := by
                rw [gO (by omega), gO (by omega)]
              rw [q1, h2 c (by simp only [List.mem_cons, List.not_mem_nil, or_false]; omega), hτ c (by simp only [List.mem_cons, List.not_mem_nil, or_false]; omega)]
            have g : hSg ω (gW (gW ρ2 62 2 0) 61 5 0) := fun c a b => fr c (by simp only [List.mem_cons, List.not_mem_nil, or_false]; omega)
            have w61 : ∀ j : Int, j ≠ 5 → j ≠ 20 → j ≠ 22 → (gW (gW ρ2 62 2 0) 61 5 0) 61 j = μ 61 j := fun j a b c => by
              rw [gWn _ _ _ a]
              show ρ2 61 j = _
              rw [h2 61 (by decide), w1 j b c, fω 61 (by decide)]
            have hd1 := hω 1 (by decide)
            refine fin_g hA ⟨fun c a b => ?_, ?_, w61 4 (by decide) (by decide) (by decide), ?_, ?_⟩ ?_ (iG_g g hG2) (iL_g g hL) ?_ (by rw [fr 0 (by decide)]; exact l0) ?_ (by rw [o62 129 (by omega) (by omega) (by omega)]; exact m9) (gWe _ _ _ _)
            · rw [fr c (by simp only [List.mem_cons, List.not_mem_nil, or_false]; omega), fω c (by simp only [List.mem_cons, List.not_mem_nil, or_false]; omega)]
            · rw [fr 36 (by decide), hω 36 (by decide)]; exact r1
            · rw [fr 63 (by decide), fω 63 (by decide)]
            · rw [fr 64 (by decide), fω 64 (by decide)]
            · rw [fr 65 (by decide), fω 65 (by decide)]
            · unfold iGm
              rw [fr 1 (by decide), fr 2 (by decide), fr 3 (by decide), fr 4 (by decide), fr 5 (by decide), fr 6 (by decide), fr 7 (by decide), fr 8 (by decide), hω 1 (by decide), hω 2 (by decide), hω 3 (by decide), hω 4 (by decide), hω 5 (by decide), hω 6 (by decide), hω 7 (by decide), hω 8 (by decide)]
              obtain ⟨q1, q2, q3, q4⟩ := hAd1
              refine ⟨⟨by rw [o62 0 (by omega) (by omega) (by omega), q2.1]; exact z0, by rw [k62 1 (by omega), n1, q2.2]⟩, fun i i0 i1 => ?_, fun e e0 e1 => ?_⟩
              · rw [q1 2 (by decide), q1 3 (by decide), o62 _ (by omega) (by omega) (by omega), o62 _ (by omega) (by omega) (by omega)]
                exact M.2.1 i i0 (by omega)
              · by_cases ce : e < (μ 1 1)
                · have a := q3 e e0 ce
                  rw [a.1, a.2.1, a.2.2.1, a.2.2.2.1, a.2.2.2.2, o62 _ (by omega) (by omega) (by omega), o62 _ (by omega) (by omega) (by omega), o62 _ (by omega) (by omega) (by omega), o62 _ (by omega) (by omega) (by omega), o62 _ (by omega) (by omega) (by omega)]
                  exact M.2.2 e e0 ce
                · have a := q4 (e - (μ 1 1)).toNat (by omega)
                  have b := nj (e - (μ 1 1)).toNat (by omega)
                  rw [show (μ 1 1) + (((e - (μ 1 1)).toNat : Nat) : Int) = e by omega] at a b
                  rw [a.1, a.2.1, a.2.2.1, a.2.2.2.1, a.2.2.2.2, k62 _ (by omega), k62 _ (by omega), k62 _ (by omega), k62 _ (by omega), k62 _ (by omega)]
                  exact ⟨b.1, b.2.1, b.2.2.1, b.2.2.2.1, b.2.2.2.2⟩
            · show gW ρ2 62 2 0 62 2 = 0
              exact gWe _ _ _ _
          have t22 : gW (gW ρ2 62 2 0) 61 5 0 61 22 = K := by
            rw [gWn _ _ _ (by decide)]
            show ρ2 61 22 = _
            rw [h2 61 (by decide)]; exact w22
          have f := h' K _ _ t22 fin2
          clear fin2 nk nj
          show gG g_T g_F (gCall g_T g_F d) 0 (fun _ => 0) (g_T 221) (Q' K) 97 [gR 61, gI K] [] g_SH ρ2 0 0
          refine gB_gG [] 300 ?_
          (conv => whnf); try simp only [gO, gWe, ne_eq, Nat.reduceEqDiff, not_false_eq_true, true_or, or_true, true_and]
          refine t_130 (by omega) ?_
          (conv => whnf); try simp only [gO, gWe, ne_eq, Nat.reduceEqDiff, not_false_eq_true, true_or, or_true, true_and]
          repeat' (first | exact True.intro | (refine ⟨fun hb => ?_, fun hb => ?_⟩ <;> first | (exfalso; omega; done) | exact absurd True.intro hb | ((conv => whnf); try simp only [gO, gWe, ne_eq, Nat.reduceEqDiff, not_false_eq_true, true_or, or_true, true_and])) | (refine ⟨by omega, ?_⟩; (conv => whnf); try simp only [gO, gWe, ne_eq, Nat.reduceEqDiff, not_false_eq_true, true_or, or_true, true_and]) | (refine ⟨fun hb => ?_, ?_⟩ <;> first | (exfalso; omega; done) | exact absurd True.intro hb | ((conv => whnf); try simp only [gO, gWe, ne_eq, Nat.reduceEqDiff, not_false_eq_true, true_or, or_true, true_and])) | fail)
          exact f) 0 (by omega) (by omega) τ gFr.rf (by omega) (fun k _ _ => rfl) (fun j hj => by omega)
        clear fin hg he gb
        (conv => whnf); try simp only [gO, gWe, ne_eq, Nat.reduceEqDiff, not_false_eq_true, true_or, or_true, true_and]
        repeat' (first | exact True.intro | (refine ⟨fun hb => ?_, fun hb => ?_⟩ <;> first | (exfalso; omega; done) | exact absurd True.intro hb | ((conv => whnf); try simp only [gO, gWe, ne_eq, Nat.reduceEqDiff, not_false_eq_true, true_or, or_true, true_and])) | (refine ⟨by omega, ?_⟩; (conv => whnf); try simp only [gO, gWe, ne_eq, Nat.reduceEqDiff, not_false_eq_true, true_or, or_true, true_and]) | (refine ⟨fun hb => ?_, ?_⟩ <;> first | (exfalso; omega; done) | exact absurd True.intro hb | ((conv => whnf); try simp only [gO, gWe, ne_eq, Nat.reduceEqDiff, not_false_eq_true, true_or, or_true, true_and])) | fail)
        exact go
      have go := t_111L (d := d) (Q := Q) (by omega) (ρ₀ := μ) hh0 hT hG g20 cE hg kkc 0 (by omega) (by omega) (gW ν 36 2 0) start (by rw [gWn _ _ _ (by decide)]; exact v1) (by rw [gWe]; rfl)
      rw [← v3] at go
      clear fin he gb mt kkc start hg
      (conv => whnf); try simp only [gO, gWe, ne_eq, Nat.reduceEqDiff, not_false_eq_true, true_or, or_true, true_and]
      repeat' (first | exact True.intro | (refine ⟨fun hb => ?_, fun hb => ?_⟩ <;> first | (exfalso; omega; done) | exact absurd True.intro hb | ((conv => whnf); try simp only [gO, gWe, ne_eq, Nat.reduceEqDiff, not_false_eq_true, true_or, or_true, true_and])) | (refine ⟨by omega, ?_⟩; (conv => whnf); try simp only [gO, gWe, ne_eq, Nat.reduceEqDiff, not_false_eq_true, true_or, or_true, true_and]) | (refine ⟨fun hb => ?_, ?_⟩ <;> first | (exfalso; omega; done) | exact absurd True.intro hb | ((conv => whnf); try simp only [gO, gWe, ne_eq, Nat.reduceEqDiff, not_false_eq_true, true_or, or_true, true_and])) | fail)
      exact go
    · (conv => whnf); try simp only [gO, gWe, ne_eq, Nat.reduceEqDiff, not_false_eq_true, true_or, or_true, true_and]
      repeat' (first | exact True.intro | (refine ⟨fun hb => ?_, fun hb => ?_⟩ <;> first | (exfalso; omega; done) | exact absurd True.intro hb | ((conv => whnf); try simp only [gO, gWe, ne_eq, Nat.reduceEqDiff, not_false_eq_true, true_or, or_true, true_and])) | (refine ⟨by omega, ?_⟩; (conv => whnf); try simp only [gO, gWe, ne_eq, Nat.reduceEqDiff, not_false_eq_true, true_or, or_true, true_and]) | (refine ⟨fun hb => ?_, ?_⟩ <;> first | (exfalso; omega; done) | exact absurd True.intro hb | ((conv => whnf); try simp only [gO, gWe, ne_eq, Nat.reduceEqDiff, not_false_eq_true, true_or, or_true, true_and])) | fail)
      refine h _ ν ?_
      refine gC 300 [31] rfl ?_
      (conv => whnf); try simp only [gO, gWe, ne_eq, Nat.reduceEqDiff, not_false_eq_true, true_or, or_true, true_and]
      refine t_219 (by omega) (K := K) mt (by rw [hν 62 (by decide)]; exact z0) n12 K1 (fun k hk => by have := gb k hk; omega) (by rw [ml]; exact hg) (by rw [ml]; exact he) (fun _ τ hτ w1 w2 _ => ?_) (fun c2 => by omega)
      have f := h' (-2) (-2) τ rfl (fin ν τ hν v1 hτ w1)
      have y1 : τ 62 1 = (μ 1 1) := by rw [hτ 62 (by decide), hν 62 (by decide)]; exact z1
      clear fin hg he gb mt
      (conv => whnf); try simp only [gO, gWe, ne_eq, Nat.reduceEqDiff, not_false_eq_true, true_or, or_true, true_and]
      repeat' (first | exact True.intro | (refine ⟨fun hb => ?_, fun hb => ?_⟩ <;> first | (exfalso; omega; done) | exact absurd True.intro hb | ((conv => whnf); try simp only [gO, gWe, ne_eq, Nat.reduceEqDiff, not_false_eq_true, true_or, or_true, true_and])) | (refine ⟨by omega, ?_⟩; (conv => whnf); try simp only [gO, gWe, ne_eq, Nat.reduceEqDiff, not_false_eq_true, true_or, or_true, true_and]) | (refine ⟨fun hb => ?_, ?_⟩ <;> first | (exfalso; omega; done) | exact absurd True.intro hb | ((conv => whnf); try simp only [gO, gWe, ne_eq, Nat.reduceEqDiff, not_false_eq_true, true_or, or_true, true_and])) | fail)
      exact f
  · have mt : hMt ν hr := hMt_c (by rw [hν 61 (by decide)]) (hν 65 (by decide)) hMT
    have ml : (ν 61 4) = (μ 36 1) := by rw [hν 61 (by decide)]; exact mlen
    have pb := pPs_b (hr := hr) (n := (μ 1 0)) (p := pPo hr (μ 1 0) K) n12.1
    have p0 := gb K (Nat.le_refl _)
    (conv => whnf); try simp only [gO, gWe, ne_eq, Nat.reduceEqDiff, not_false_eq_true, true_or, or_true, true_and]
    repeat' (first | exact True.intro | (refine ⟨fun hb => ?_, fun hb => ?_⟩ <;> first | (exfalso; omega; done) | exact absurd True.intro hb | ((conv => whnf); try simp only [gO, gWe, ne_eq, Nat.reduceEqDiff, not_false_eq_true, true_or, or_true, true_and])) | (refine ⟨by omega, ?_⟩; (conv => whnf); try simp only [gO, gWe, ne_eq, Nat.reduceEqDiff, not_false_eq_true, true_or, or_true, true_and]) | (refine ⟨fun hb => ?_, ?_⟩ <;> first | (exfalso; omega; done) | exact absurd True.intro hb | ((conv => whnf); try simp only [gO, gWe, ne_eq, Nat.reduceEqDiff, not_false_eq_true, true_or, or_true, true_and])) | fail)
    refine h _ ν ?_
    refine gC 300 [31] rfl ?_
    (conv => whnf); try simp only [gO, gWe, ne_eq, Nat.reduceEqDiff, not_false_eq_true, true_or, or_true, true_and]
    refine t_219 (by omega) (K := K) mt (by rw [hν 62 (by decide)]; exact z0) n12 K1 (fun k hk => by have := gb k hk; omega) (by rw [ml]; exact hg) (by rw [ml]; exact he) (fun c2 => by omega) (fun _ τ hτ w1 w2 => ?_)
    have f := h' (-3) (-3) τ rfl (fin ν τ hν v1 hτ w1)
    clear fin hg he gb mt
    (conv => whnf); try simp only [gO, gWe, ne_eq, Nat.reduceEqDiff, not_false_eq_true, true_or, or_true, true_and]
    repeat' (first | exact True.intro | (refine ⟨fun hb => ?_, fun hb => ?_⟩ <;> first | (exfalso; omega; done) | exact absurd True.intro hb | ((conv => whnf); try simp only [gO, gWe, ne_eq, Nat.reduceEqDiff, not_false_eq_true, true_or, or_true, true_and])) | (refine ⟨by omega, ?_⟩; (conv => whnf); try simp only [gO, gWe, ne_eq, Nat.reduceEqDiff, not_false_eq_true, true_or, or_true, true_and]) | (refine ⟨fun hb => ?_, ?_⟩ <;> first | (exfalso; omega; done) | exact absurd True.intro hb | ((conv => whnf); try simp only [gO, gWe, ne_eq, Nat.reduceEqDiff, not_false_eq_true, true_or, or_true, true_and])) | fail)
    exact f
