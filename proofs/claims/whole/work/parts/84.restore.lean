/-! the case restore -/
theorem hGr_c {ν τ ρ : MU} (h : ∀ c : Nat, 1 ≤ c → c ≤ 8 → τ c = ν c) (x : hGr ν ρ) : hGr τ ρ := by
  unfold hGr at *
  rw [h 1 (by decide) (by decide), h 2 (by decide) (by decide), h 3 (by decide) (by decide), h 4 (by decide) (by decide), h 5 (by decide) (by decide), h 6 (by decide) (by decide), h 7 (by decide) (by decide), h 8 (by decide) (by decide)]
  exact x
theorem hGr_G {ν ρ : MU} (h : hGr ν ρ) (hG : iG ρ) : iG ν := by
  obtain ⟨⟨n, m⟩, h1, h2⟩ := h
  refine ⟨by rw [n, m]; exact hG.1, fun i i0 i1 => ?_, fun e e0 e1 => ?_⟩
  · have a := h1 i i0 (by omega)
    rw [a.1, a.2]; exact hG.2.1 i i0 (by omega)
  · have a := h2 e e0 (by omega)
    rw [a.1, a.2.1, a.2.2.1, a.2.2.2.1, a.2.2.2.2, n]; exact hG.2.2 e e0 (by omega)
theorem hIO {ν ρ : MU} {sq sq' pl : Int → Int} (hG : iG ρ) (hL : iL ρ) (hg : hGr ν ρ) (hl : hLy ν ρ) (hv : (ν 19 2) = (ρ 19 2) ∧ (∀ v : Int, 0 ≤ v → v < (ρ 19 2) → (ν 20) v = (ρ 20) v ∧ (ν 21) v = (ρ 21) v) ∧ ∀ y : Int, 0 ≤ y → y ≤ (ρ 9 1) → (ν 23) y = (ρ 23) y) (hN : iN ρ) (hO : iO ρ sq pl) (hs : ∀ k : Int, 0 ≤ k → k < (ρ 19 2) → sq' k = sq k) : iO ν sq' pl := by
  obtain ⟨v1, v2, v3⟩ := hv
  refine ⟨fun y y0 y1 k k0 k1 => ?_, fun v q0 q1 => ?_⟩
  · rw [hl.1] at y1
    have st := (iN_st hG hL hN).1 y y0 y1
    rw [v3 y y0 (by omega)] at k0 ⊢
    rw [v3 (y + 1) (by omega) (by omega)] at k1
    have o := hO.1 y y0 y1 k k0 k1
    rw [hs k (by omega) (by omega), v1, (v2 _ o.1.1 o.1.2).2]
    exact o
  · rw [v1] at q1
    have l := iN_lay hG hL hN q0 q1
    have o := iO_v hG hL hN hO q0 q1
    have o1 := o.2.1
    have o2 := o.2.2.1
    rw [(v2 v q0 q1).2, v3 _ l.1 (by omega), v3 _ (by omega) (by omega), hs _ (by omega) (by omega)]
    exact hO.2 v q0 q1
theorem fin_r {μ τ ρ : MU} (hA : iAll μ) (iAρ : iA ρ) (iBρ : iB ρ) (hg : hGr τ ρ) (hL : iL τ) (hl : (τ 0 6) = (ρ 0 6)) (hv : ∀ k : Int, 0 ≤ k → k < 289 → τ 62 k = ρ 62 k) (hf : τ 61 5 = 0) (h4 : τ 61 4 = μ 61 4) (hc : ∀ c : Nat, 35 ≤ c → (c ≤ 60 ∨ 63 ≤ c) → τ c = μ c) (hd : (τ 0 6) = 1 → iN τ ∧ iO τ (τ 24) (τ 25) ∧ (∀ k : Int, 0 ≤ k → k < 60 → (τ 24) k = (ρ 24) k) ∧ ∀ v : Int, 0 ≤ v → v < 60 → (τ 34) v = (ρ 34) v) : iAll τ := by
  have hG := hGr_G hg iAρ.1
  have G := iAρ.1.1
  have L := iAρ.2.1.2.2.2.1
  have hGm : iGm τ := by
    obtain ⟨⟨n, m⟩, h1, h2⟩ := hg
    have b := iBρ.1
    refine ⟨⟨by rw [hv 0 (by omega) (by omega), n]; exact b.1.1, by rw [hv 1 (by omega) (by omega), m]; exact b.1.2⟩, fun i i0 i1 => ?_, fun e e0 e1 => ?_⟩
    · have a := h1 i i0 (by omega)
      rw [hv _ (by omega) (by omega), hv _ (by omega) (by omega), a.1, a.2]; exact b.2.1 i i0 (by omega)
    · have a := h2 e e0 (by omega)
      rw [hv _ (by omega) (by omega), hv _ (by omega) (by omega), hv _ (by omega) (by omega), hv _ (by omega) (by omega), hv _ (by omega) (by omega), a.1, a.2.1, a.2.2.1, a.2.2.2.1, a.2.2.2.2]; exact b.2.2 e e0 (by omega)
  have ly := hLy_x iAρ.1 hg hL iAρ.2.1
  refine ⟨⟨hG, hL, by rw [hl]; exact iAρ.2.2.1, fun l1 => ?_⟩, ⟨hGm, ⟨by rw [hv 2 (by omega) (by omega), hl]; exact iBρ.2.1.1, by rw [hv 129 (by omega) (by omega)]; exact iBρ.2.1.2⟩, fun l1 => ?_⟩, ⟨Or.inl hf, fun hh => by omega⟩, iT_c (by rw [hc 36 (by omega) (by omega)]) (hc 37 (by omega) (by omega)) h4 (hc 65 (by omega) (by omega)) hA.2.2.2.1, hRs_S2 (fun c a b => hc c (by omega) (Or.inl b)) (hc 63 (by omega) (by omega)) (hc 64 (by omega) (by omega)) hA.2.2.2.2⟩
  · obtain ⟨d1, d2, d3, d4⟩ := hd l1
    obtain ⟨dN, dO, dC, dX⟩ := iAρ.2.2.2 (by rw [← hl]; exact l1)
    have vx := hVx iAρ.1 hg ly iAρ.2.1 d1 dN
    have V := dN.1
    refine ⟨d1, d2, fun y y0 y1 => ?_, fun v v0 v1 => ?_⟩
    · rw [ly.1] at y1
      have st := (iN_st iAρ.1 iAρ.2.1 dN).1 y y0 y1
      intro i j k i0 i1 i2 i3
      rw [vx.2.2 y y0 (by omega)] at i0
      rw [vx.2.2 (y + 1) (by omega) (by omega)] at i3
      have xg : ∀ q : Int, (ρ 23) y ≤ q → q < (ρ 23) (y + 1) → xGr τ ((τ 24) q) = xGr ρ ((ρ 24) q) := fun q q0 q1 => by
        rw [d3 q (by omega) (by omega)]
        have o := (dO.1 y y0 y1 q q0 q1).1
        unfold xGr
        rw [hg.1.1]
        by_cases c : (ρ 24) q < (ρ 1 0)
        · rw [if_pos c, if_pos c]; exact (hg.2.1 _ o.1 c).2
        · rw [if_neg c, if_neg c]
      rw [xg i i0 (by omega), xg j (by omega) (by omega), xg k (by omega) i3]
      exact dC y y0 y1 i j k i0 i1 i2 i3
    · rw [d4 v v0 (by omega)]; exact dX v v0 (by omega)
  · obtain ⟨d1, d2, d3, d4⟩ := hd l1
    obtain ⟨dN, dO, dC, dX⟩ := iAρ.2.2.2 (by rw [← hl]; exact l1)
    obtain ⟨mS, mq, mx⟩ := iBρ.2.2 (by rw [← hl]; exact l1)
    have vx := hVx iAρ.1 hg ly iAρ.2.1 d1 dN
    have V := dN.1
    refine ⟨⟨⟨by rw [hv 3 (by omega) (by omega), vx.1]; exact mS.1.1, by rw [hv 4 (by omega) (by omega), ly.1]; exact mS.1.2⟩, fun y y0 y1 => ?_⟩, fun k k0 k1 => ?_, fun k k0 k1 => ?_⟩
    · rw [ly.1] at y1
      rw [hv _ (by omega) (by omega), vx.2.2 y y0 y1]; exact mS.2 y y0 y1
    · rw [vx.1] at k1
      have o := (iO_k iAρ.1 iAρ.2.1 dN dO k0 k1).1
      rw [hv _ (by omega) (by omega), d3 k k0 (by omega), (vx.2.1 _ o.1 o.2).1]; exact mq k k0 k1
    · rw [vx.1] at k1
      have o := (iO_k iAρ.1 iAρ.2.1 dN dO k0 k1).1
      rw [hv _ (by omega) (by omega), d3 k k0 (by omega), d4 _ o.1 (by omega)]; exact mx k k0 k1
theorem t_223 {D : Nat} (hD : 2 ≤ D) {μ : MU} {Q : GQ} {s : Int} (hs : s = 0 ∨ s = 1) (hk : μ 64 s = 1) (h : ∀ ν : MU, gFr [61, 62] μ ν → (∀ j : Int, j ≠ 5 → ν 61 j = μ 61 j) → ν 61 5 = 0 → (∀ k : Int, 0 ≤ k → k < 289 → ν 62 k = μ 63 (289 * s + k)) → Q (some (gI (ν 62 0))) g_SH ν) : gCall g_T g_F D 223 [gR 61, gI s] g_SH μ Q := by
  have s01 : 0 ≤ s ∧ s ≤ 1 := by omega
  obtain ⟨d, rfl⟩ := gD (show 1 ≤ D by omega)
  refine gC 300 [25] rfl ?_
  (conv => whnf); try simp only [gO, gWe, ne_eq, Nat.reduceEqDiff, not_false_eq_true, true_or, or_true, true_and]
  refine t_125 (by omega) (fun _ => ?_) (fun c => absurd s01 c)
  (conv => whnf); try simp only [gO, gWe, ne_eq, Nat.reduceEqDiff, not_false_eq_true, true_or, or_true, true_and]
  repeat' (first | exact True.intro | (refine ⟨fun hb => ?_, fun hb => ?_⟩ <;> first | (exfalso; omega; done) | exact absurd True.intro hb | ((conv => whnf); try simp only [gO, gWe, ne_eq, Nat.reduceEqDiff, not_false_eq_true, true_or, or_true, true_and])) | (refine ⟨by omega, ?_⟩; (conv => whnf); try simp only [gO, gWe, ne_eq, Nat.reduceEqDiff, not_false_eq_true, true_or, or_true, true_and]) | (refine ⟨fun hb => ?_, ?_⟩ <;> first | (exfalso; omega; done) | exact absurd True.intro hb | ((conv => whnf); try simp only [gO, gWe, ne_eq, Nat.reduceEqDiff, not_false_eq_true, true_or, or_true, true_and])) | fail)
  have key : ∀ k : Int, 0 ≤ k → k ≤ 289 → ∀ ρ : MU, gFr [62] μ ρ → (∀ j : Int, 0 ≤ j → j < k → ρ 62 j = μ 63 (289 * s + j)) → gG g_T g_F (gCall g_T g_F d) 0 (fun _ => 0) (g_T 223) Q 25 [gR 61, gI s, gI k] [] g_SH ρ 0 0 := by
    refine g_up (fun k k0 k1 ih ρ hρ hk => ?_) (fun ρ hρ hk => ?_)
    · have i := ih (gW ρ 62 k (ρ 63 (289 * s + k))) (hρ.W (by decide)) (fun j j0 j1 => by
        by_cases c : j = k
        · rw [c, gWe, hρ 63 (by decide)]
        · rw [gWn _ _ _ c]; exact hk j j0 (by omega))
      clear ih hk hs
      refine gB_gG [25] 300 ?_
      (conv => whnf); try simp only [gO, gWe, ne_eq, Nat.reduceEqDiff, not_false_eq_true, true_or, or_true, true_and]
      repeat' (first | exact True.intro | (refine ⟨fun hb => ?_, fun hb => ?_⟩ <;> first | (exfalso; omega; done) | exact absurd True.intro hb | ((conv => whnf); try simp only [gO, gWe, ne_eq, Nat.reduceEqDiff, not_false_eq_true, true_or, or_true, true_and])) | (refine ⟨by omega, ?_⟩; (conv => whnf); try simp only [gO, gWe, ne_eq, Nat.reduceEqDiff, not_false_eq_true, true_or, or_true, true_and]) | (refine ⟨fun hb => ?_, ?_⟩ <;> first | (exfalso; omega; done) | exact absurd True.intro hb | ((conv => whnf); try simp only [gO, gWe, ne_eq, Nat.reduceEqDiff, not_false_eq_true, true_or, or_true, true_and])) | fail)
      exact i
    · have f := h (gW ρ 61 5 0) ((hρ.mo (by decide)).W (by decide)) (fun j hj => by rw [gWn _ _ _ hj, hρ 61 (by decide)]) (gWe _ _ _ _) hk
      clear h hk hs
      refine gB_gG [25] 300 ?_
      (conv => whnf); try simp only [gO, gWe, ne_eq, Nat.reduceEqDiff, not_false_eq_true, true_or, or_true, true_and]
      repeat' (first | exact True.intro | (refine ⟨fun hb => ?_, fun hb => ?_⟩ <;> first | (exfalso; omega; done) | exact absurd True.intro hb | ((conv => whnf); try simp only [gO, gWe, ne_eq, Nat.reduceEqDiff, not_false_eq_true, true_or, or_true, true_and])) | (refine ⟨by omega, ?_⟩; (conv => whnf); try simp only [gO, gWe, ne_eq, Nat.reduceEqDiff, not_false_eq_true, true_or, or_true, true_and]) | (refine ⟨fun hb => ?_, ?_⟩ <;> first | (exfalso; omega; done) | exact absurd True.intro hb | ((conv => whnf); try simp only [gO, gWe, ne_eq, Nat.reduceEqDiff, not_false_eq_true, true_or, or_true, true_and])) | fail)
      (conv => whnf); try simp only [gO, gWe, ne_eq, Nat.reduceEqDiff, not_false_eq_true, true_or, or_true, true_and]
      repeat' (first | exact True.intro | (refine ⟨fun hb => ?_, fun hb => ?_⟩ <;> first | (exfalso; omega; done) | exact absurd True.intro hb | ((conv => whnf); try simp only [gO, gWe, ne_eq, Nat.reduceEqDiff, not_false_eq_true, true_or, or_true, true_and])) | (refine ⟨by omega, ?_⟩; (conv => whnf); try simp only [gO, gWe, ne_eq, Nat.reduceEqDiff, not_false_eq_true, true_or, or_true, true_and]) | (refine ⟨fun hb => ?_, ?_⟩ <;> first | (exfalso; omega; done) | exact absurd True.intro hb | ((conv => whnf); try simp only [gO, gWe, ne_eq, Nat.reduceEqDiff, not_false_eq_true, true_or, or_true, true_and])) | fail)
      exact f
  exact key 0 (by omega) (by omega) μ gFr.rf (fun j _ _ => by omega)
theorem t_223n {D : Nat} (hD : 2 ≤ D) {μ : MU} {Q : GQ} {s : Int} (hs : s = 0 ∨ s = 1) (hk : μ 64 s = 0) (h : Q (some (gI (-3))) g_SH μ) : gCall g_T g_F D 223 [gR 61, gI s] g_SH μ Q := by
  have s01 : 0 ≤ s ∧ s ≤ 1 := by omega
  clear hs
  obtain ⟨d, rfl⟩ := gD (show 1 ≤ D by omega)
  refine gC 300 [] rfl ?_
  (conv => whnf); try simp only [gO, gWe, ne_eq, Nat.reduceEqDiff, not_false_eq_true, true_or, or_true, true_and]
  repeat' (first | exact True.intro | (refine ⟨fun hb => ?_, fun hb => ?_⟩ <;> first | (exfalso; omega; done) | exact absurd True.intro hb | ((conv => whnf); try simp only [gO, gWe, ne_eq, Nat.reduceEqDiff, not_false_eq_true, true_or, or_true, true_and])) | (refine ⟨by omega, ?_⟩; (conv => whnf); try simp only [gO, gWe, ne_eq, Nat.reduceEqDiff, not_false_eq_true, true_or, or_true, true_and]) | (refine ⟨fun hb => ?_, ?_⟩ <;> first | (exfalso; omega; done) | exact absurd True.intro hb | ((conv => whnf); try simp only [gO, gWe, ne_eq, Nat.reduceEqDiff, not_false_eq_true, true_or, or_true, true_and])) | fail)
  refine t_125 (by omega) (fun _ => ?_) (fun c => absurd s01 c)
  (conv => whnf); try simp only [gO, gWe, ne_eq, Nat.reduceEqDiff, not_false_eq_true, true_or, or_true, true_and]
  repeat' (first | exact True.intro | (refine ⟨fun hb => ?_, fun hb => ?_⟩ <;> first | (exfalso; omega; done) | exact absurd True.intro hb | ((conv => whnf); try simp only [gO, gWe, ne_eq, Nat.reduceEqDiff, not_false_eq_true, true_or, or_true, true_and])) | (refine ⟨by omega, ?_⟩; (conv => whnf); try simp only [gO, gWe, ne_eq, Nat.reduceEqDiff, not_false_eq_true, true_or, or_true, true_and]) | (refine ⟨fun hb => ?_, ?_⟩ <;> first | (exfalso; omega; done) | exact absurd True.intro hb | ((conv => whnf); try simp only [gO, gWe, ne_eq, Nat.reduceEqDiff, not_false_eq_true, true_or, or_true, true_and])) | fail)
  exact h
theorem c_113_0 {D : Nat} (hD : 30 ≤ D) {μ : MU} (hA : iAll μ) : hCs D 113 223 [gI 0] μ := by
  intro Q Q' h h'
  obtain ⟨s1, s2, s3⟩ := hA.2.2.2.2.1
  by_cases c : μ 39 0 = 1
  · obtain ⟨ρ, iAρ, iBρ, kk, ⟨g1, g2, g3⟩, gi, ge, gs⟩ := s3 c
    have k1 : μ 64 0 = 1 := by rw [s2]; exact c
    have G := iAρ.1.1
    have hGρ := iAρ.1
    have l01 := iAρ.2.2.1
    have mod : ∀ (D : Nat) (hD : 20 ≤ D) (ν : MU) (Q : GQ), ν 63 = μ 63 → ν 64 = μ 64 → (∀ τ : MU, gFr [61, 62] ν τ → (∀ j : Int, j ≠ 5 → τ 61 j = ν 61 j) → τ 61 5 = 0 → (∀ k : Int, 0 ≤ k → k < 289 → τ 62 k = ρ 62 k) → Q (some (gI ((ρ 1 0)))) g_SH τ) → gCall g_T g_F D 223 [gR 61, gI 0] g_SH ν Q := fun D hD ν Q e63 e64 hq => by
      refine t_223 (by omega) (Or.inl rfl) (by rw [e64]; exact k1) (fun τ hτ w1 w2 w3 => ?_)
      have w : ∀ k : Int, 0 ≤ k → k < 289 → τ 62 k = ρ 62 k := fun k q0 q1 => by
        rw [w3 k q0 q1, e63, show 289 * 0 + k = (0 : Int) + k by omega]; exact kk k q0 q1
      have z := w 0 (by omega) (by omega)
      rw [z, iBρ.1.1.1]
      exact hq τ hτ w1 w2 w
    clear kk s3
    obtain ⟨d, rfl⟩ := gD (show 1 ≤ D by omega)
    refine gC 300 [] rfl ?_
    (conv => whnf); try simp only [gO, gWe, ne_eq, Nat.reduceEqDiff, not_false_eq_true, true_or, or_true, true_and]
    repeat' (first | exact True.intro | (refine ⟨fun hb => ?_, fun hb => ?_⟩ <;> first | (exfalso; omega; done) | exact absurd True.intro hb | ((conv => whnf); try simp only [gO, gWe, ne_eq, Nat.reduceEqDiff, not_false_eq_true, true_or, or_true, true_and])) | (refine ⟨by omega, ?_⟩; (conv => whnf); try simp only [gO, gWe, ne_eq, Nat.reduceEqDiff, not_false_eq_true, true_or, or_true, true_and]) | (refine ⟨fun hb => ?_, ?_⟩ <;> first | (exfalso; omega; done) | exact absurd True.intro hb | ((conv => whnf); try simp only [gO, gWe, ne_eq, Nat.reduceEqDiff, not_false_eq_true, true_or, or_true, true_and])) | fail)
    refine t_123_0 (by omega) ?_
    (conv => whnf); try simp only [gO, gWe, ne_eq, Nat.reduceEqDiff, not_false_eq_true, true_or, or_true, true_and]
    repeat' (first | exact True.intro | (refine ⟨fun hb => ?_, fun hb => ?_⟩ <;> first | (exfalso; omega; done) | exact absurd True.intro hb | ((conv => whnf); try simp only [gO, gWe, ne_eq, Nat.reduceEqDiff, not_false_eq_true, true_or, or_true, true_and])) | (refine ⟨by omega, ?_⟩; (conv => whnf); try simp only [gO, gWe, ne_eq, Nat.reduceEqDiff, not_false_eq_true, true_or, or_true, true_and]) | (refine ⟨fun hb => ?_, ?_⟩ <;> first | (exfalso; omega; done) | exact absurd True.intro hb | ((conv => whnf); try simp only [gO, gWe, ne_eq, Nat.reduceEqDiff, not_false_eq_true, true_or, or_true, true_and])) | fail)
    refine t_18r_40 (by omega) (fun ν₁ h1 v1 v2 v3 => ?_)
    have gr1 : hGr ν₁ ρ := ⟨⟨v1.1.trans g1, v1.2.trans g2⟩, fun i i0 i1 => ⟨(v2 i i0 (by omega)).1.trans (gi i i0 (by omega)).1, (v2 i i0 (by omega)).2.trans (gi i i0 (by omega)).2⟩, fun e e0 e1 => ⟨(v3 e e0 (by omega)).1.trans (ge e e0 (by omega)).1, (v3 e e0 (by omega)).2.1.trans (ge e e0 (by omega)).2.1, (v3 e e0 (by omega)).2.2.1.trans (ge e e0 (by omega)).2.2.1, (v3 e e0 (by omega)).2.2.2.1.trans (ge e e0 (by omega)).2.2.2.1, (v3 e e0 (by omega)).2.2.2.2.trans (ge e e0 (by omega)).2.2.2.2⟩⟩
    have hG1 := hGr_G gr1 hGρ
    (conv => whnf); try simp only [gO, gWe, ne_eq, Nat.reduceEqDiff, not_false_eq_true, true_or, or_true, true_and]
    repeat' (first | exact True.intro | (refine ⟨fun hb => ?_, fun hb => ?_⟩ <;> first | (exfalso; omega; done) | exact absurd True.intro hb | ((conv => whnf); try simp only [gO, gWe, ne_eq, Nat.reduceEqDiff, not_false_eq_true, true_or, or_true, true_and])) | (refine ⟨by omega, ?_⟩; (conv => whnf); try simp only [gO, gWe, ne_eq, Nat.reduceEqDiff, not_false_eq_true, true_or, or_true, true_and]) | (refine ⟨fun hb => ?_, ?_⟩ <;> first | (exfalso; omega; done) | exact absurd True.intro hb | ((conv => whnf); try simp only [gO, gWe, ne_eq, Nat.reduceEqDiff, not_false_eq_true, true_or, or_true, true_and])) | fail)
    refine t_116 (by omega) hG1 (fun ν₂ h2 hL2 l0 => ?_)
    have f2 : gFr [0, 1, 2, 3, 4, 5, 6, 7, 8, 9, 10, 11, 12, 13, 14, 15, 16, 17, 18] μ ν₂ := (h1.mo (by decide)).tr (h2.mo (by decide))
    have gr2 : hGr ν₂ ρ := hGr_c (fun c a b => h2 c (by simp only [List.mem_cons, List.not_mem_nil, or_false]; omega)) gr1
    have hG2 := hGr_G gr2 hGρ
    have ly2 := hLy_x hGρ gr2 hL2 iAρ.2.1
    have o1 : ν₂ 39 1 = (ρ 0 6) := by rw [f2 39 (by decide)]; exact g3
    have n2 : ν₂ 1 0 = (ρ 1 0) := gr2.1.1
    rcases l01 with lq | lq
    · rw [lq] at o1
      have f := h (ρ 1 0) ν₂ (mod _ (by omega) ν₂ _ (f2 63 (by decide)) (f2 64 (by decide)) (fun τ hτ w1 w2 w => h' _ _ τ rfl (fin_r hA iAρ iBρ (hGr_c (fun c a b => hτ c (by simp only [List.mem_cons, List.not_mem_nil, or_false]; omega)) gr2) (iL_g (fun c a b => hτ c (by simp only [List.mem_cons, List.not_mem_nil, or_false]; omega)) hL2) (by rw [hτ 0 (by decide), l0]; exact lq.symm) w w2 (by rw [w1 4 (by omega), f2 61 (by decide)]) (fun c a b => by rw [hτ c (by simp only [List.mem_cons, List.not_mem_nil, or_false]; omega), f2 c (by simp only [List.mem_cons, List.not_mem_nil, or_false]; omega)]) (fun hh => by rw [hτ 0 (by decide), l0] at hh; omega))))
      clear mod gi ge gs s1
      rw [← n2] at f
      (conv => whnf); try simp only [gO, gWe, ne_eq, Nat.reduceEqDiff, not_false_eq_true, true_or, or_true, true_and]
      repeat' (first | exact True.intro | (refine ⟨fun hb => ?_, fun hb => ?_⟩ <;> first | (exfalso; omega; done) | exact absurd True.intro hb | ((conv => whnf); try simp only [gO, gWe, ne_eq, Nat.reduceEqDiff, not_false_eq_true, true_or, or_true, true_and])) | (refine ⟨by omega, ?_⟩; (conv => whnf); try simp only [gO, gWe, ne_eq, Nat.reduceEqDiff, not_false_eq_true, true_or, or_true, true_and]) | (refine ⟨fun hb => ?_, ?_⟩ <;> first | (exfalso; omega; done) | exact absurd True.intro hb | ((conv => whnf); try simp only [gO, gWe, ne_eq, Nat.reduceEqDiff, not_false_eq_true, true_or, or_true, true_and])) | fail)
      exact f
    · rw [lq] at o1
      obtain ⟨dN, dO, dC, dX⟩ := iAρ.2.2.2 lq
      have hc : (ν₂ 1 0) + xTot ν₂ - (ν₂ 1 1) ≤ 60 := by
        have a := hBn_t hG2
        have b : (ρ 19 2) = (ρ 1 0) + hBn ρ (ρ 1 1) := dN.2.1
        have e : hBn ν₂ (ν₂ 1 1) = hBn ρ (ρ 1 1) := by
          unfold hBn
          rw [gr2.1.2]
          exact gSum_c _ (fun e e0 e1 => by
            have t := ly2.2.2 e e0 (by omega)
            show (ν₂ 15) e - (ν₂ 14) e - 1 = (ρ 15) e - (ρ 14) e - 1
            rw [t.2.2.2.1, t.2.2.2.2])
        have V := dN.1
        have q1 := gr2.1.1
        omega
      (conv => whnf); try simp only [gO, gWe, ne_eq, Nat.reduceEqDiff, not_false_eq_true, true_or, or_true, true_and]
      repeat' (first | exact True.intro | (refine ⟨fun hb => ?_, fun hb => ?_⟩ <;> first | (exfalso; omega; done) | exact absurd True.intro hb | ((conv => whnf); try simp only [gO, gWe, ne_eq, Nat.reduceEqDiff, not_false_eq_true, true_or, or_true, true_and])) | (refine ⟨by omega, ?_⟩; (conv => whnf); try simp only [gO, gWe, ne_eq, Nat.reduceEqDiff, not_false_eq_true, true_or, or_true, true_and]) | (refine ⟨fun hb => ?_, ?_⟩ <;> first | (exfalso; omega; done) | exact absurd True.intro hb | ((conv => whnf); try simp only [gO, gWe, ne_eq, Nat.reduceEqDiff, not_false_eq_true, true_or, or_true, true_and])) | fail)
      refine t_35 (by omega) hG2 hL2 hc (fun ν₃ s h3 _ hN3 _ _ => ?_)
      have sg : hSg ν₂ ν₃ := fun c a b => h3 c (by simp only [List.mem_cons, List.not_mem_nil, or_false]; omega)
      have gr3 : hGr ν₃ ρ := hGr_c (fun c a b => sg c a (by omega)) gr2
      have hL3 := iL_g sg hL2
      have hG3 := hGr_G gr3 hGρ
      have ly3 := hLy_x hGρ gr3 hL3 iAρ.2.1
      have vx := hVx hGρ gr3 ly3 iAρ.2.1 hN3 dN
      have f3 : gFr [0, 1, 2, 3, 4, 5, 6, 7, 8, 9, 10, 11, 12, 13, 14, 15, 16, 17, 18, 19, 20, 21, 22, 23, 24, 25, 28] μ ν₃ := (f2.mo (by decide)).tr (h3.mo (by decide))
      have sq3 : ∀ k : Int, 0 ≤ k → k < 60 → ν₃ 48 k = (ρ 24) k := fun k q0 q1 => by rw [f3 48 (by decide)]; exact (gs k q0 q1).1
      have hO3 : iO ν₃ (ν₃ 48) (ρ 25) := hIO hGρ iAρ.2.1 gr3 ly3 vx dN dO (fun k q0 q1 => sq3 k q0 (by have := dN.1; omega))
      (conv => whnf); try simp only [gO, gWe, ne_eq, Nat.reduceEqDiff, not_false_eq_true, true_or, or_true, true_and]
      repeat' (first | exact True.intro | (refine ⟨fun hb => ?_, fun hb => ?_⟩ <;> first | (exfalso; omega; done) | exact absurd True.intro hb | ((conv => whnf); try simp only [gO, gWe, ne_eq, Nat.reduceEqDiff, not_false_eq_true, true_or, or_true, true_and])) | (refine ⟨by omega, ?_⟩; (conv => whnf); try simp only [gO, gWe, ne_eq, Nat.reduceEqDiff, not_false_eq_true, true_or, or_true, true_and]) | (refine ⟨fun hb => ?_, ?_⟩ <;> first | (exfalso; omega; done) | exact absurd True.intro hb | ((conv => whnf); try simp only [gO, gWe, ne_eq, Nat.reduceEqDiff, not_false_eq_true, true_or, or_true, true_and])) | fail)
      refine t_47_48 (by omega) hG3 hL3 hN3 hO3 (fun ν₄ h4 q4 hO4 => ?_)
      have s4 : hSt ν₃ ν₄ := h4.st (by decide)
      (conv => whnf); try simp only [gO, gWe, ne_eq, Nat.reduceEqDiff, not_false_eq_true, true_or, or_true, true_and]
      repeat' (first | exact True.intro | (refine ⟨fun hb => ?_, fun hb => ?_⟩ <;> first | (exfalso; omega; done) | exact absurd True.intro hb | ((conv => whnf); try simp only [gO, gWe, ne_eq, Nat.reduceEqDiff, not_false_eq_true, true_or, or_true, true_and])) | (refine ⟨by omega, ?_⟩; (conv => whnf); try simp only [gO, gWe, ne_eq, Nat.reduceEqDiff, not_false_eq_true, true_or, or_true, true_and]) | (refine ⟨fun hb => ?_, ?_⟩ <;> first | (exfalso; omega; done) | exact absurd True.intro hb | ((conv => whnf); try simp only [gO, gWe, ne_eq, Nat.reduceEqDiff, not_false_eq_true, true_or, or_true, true_and])) | fail)
      have fω : gFr [0, 1, 2, 3, 4, 5, 6, 7, 8, 9, 10, 11, 12, 13, 14, 15, 16, 17, 18, 19, 20, 21, 22, 23, 24, 25, 28, 34] μ (gW (gCp ν₄ 49 0 34 0 60) 0 6 1) := (((f3.mo (by decide)).tr (h4.mo (by decide))).C (by decide)).W (by decide)
      have sω : hSt ν₃ (gW (gCp ν₄ 49 0 34 0 60) 0 6 1) := fun c a b => by rw [gO (by omega), gCp_n (by omega)]; exact s4 c a b
      have wl : (gW (gCp ν₄ 49 0 34 0 60) 0 6 1) 0 6 = 1 := gWe _ _ _ _
      have wo : ∀ c : Nat, c = 24 ∨ c = 25 → (gW (gCp ν₄ 49 0 34 0 60) 0 6 1) c = ν₄ c := fun c hc => by rw [gO (by omega), gCp_n (by omega)]
      have wf : ∀ v : Int, 0 ≤ v → v < 60 → (gW (gCp ν₄ 49 0 34 0 60) 0 6 1) 34 v = (ρ 34) v := fun v q0 q1 => by
        rw [gO (by decide), gCp_i q0 q1, h4 49 (by decide), f3 49 (by decide)]; exact (gs v q0 q1).2
      have rr : gCp ν₄ 49 0 34 0 60 1 0 = (ρ 1 0) := by rw [gCp_n (by decide), h4 1 (by decide)]; exact gr3.1.1
      repeat' (first | exact True.intro | (refine ⟨fun hb => ?_, fun hb => ?_⟩ <;> first | (exfalso; omega; done) | exact absurd True.intro hb | ((conv => whnf); try simp only [gO, gWe, ne_eq, Nat.reduceEqDiff, not_false_eq_true, true_or, or_true, true_and])) | (refine ⟨by omega, ?_⟩; (conv => whnf); try simp only [gO, gWe, ne_eq, Nat.reduceEqDiff, not_false_eq_true, true_or, or_true, true_and]) | (refine ⟨fun hb => ?_, ?_⟩ <;> first | (exfalso; omega; done) | exact absurd True.intro hb | ((conv => whnf); try simp only [gO, gWe, ne_eq, Nat.reduceEqDiff, not_false_eq_true, true_or, or_true, true_and])) | fail)
      (conv => whnf); try simp only [gO, gWe, ne_eq, Nat.reduceEqDiff, not_false_eq_true, true_or, or_true, true_and]
      repeat' (first | exact True.intro | (refine ⟨fun hb => ?_, fun hb => ?_⟩ <;> first | (exfalso; omega; done) | exact absurd True.intro hb | ((conv => whnf); try simp only [gO, gWe, ne_eq, Nat.reduceEqDiff, not_false_eq_true, true_or, or_true, true_and])) | (refine ⟨by omega, ?_⟩; (conv => whnf); try simp only [gO, gWe, ne_eq, Nat.reduceEqDiff, not_false_eq_true, true_or, or_true, true_and]) | (refine ⟨fun hb => ?_, ?_⟩ <;> first | (exfalso; omega; done) | exact absurd True.intro hb | ((conv => whnf); try simp only [gO, gWe, ne_eq, Nat.reduceEqDiff, not_false_eq_true, true_or, or_true, true_and])) | fail)
      rw [rr]
      generalize gW (gCp ν₄ 49 0 34 0 60) 0 6 1 = ω at *
      refine h (ρ 1 0) ω (mod _ (by omega) ω _ (fω 63 (by decide)) (fω 64 (by decide)) (fun τ hτ w1 w2 w => h' _ _ τ rfl ?_))
      have sτ : hSt ν₃ τ := sω.tr (hτ.st (by decide))
      refine fin_r hA iAρ iBρ (hGr_c (fun c a b => sτ c a (by omega)) gr3) (iL_c sτ hL3) (by rw [hτ 0 (by decide), wl]; exact lq.symm) w w2 (by rw [w1 4 (by omega), fω 61 (by decide)]) (fun c a b => by rw [hτ c (by simp only [List.mem_cons, List.not_mem_nil, or_false]; omega), fω c (by simp only [List.mem_cons, List.not_mem_nil, or_false]; omega)]) (fun _ => ⟨iN_c sτ hN3, ?_, ?_, fun v q0 q1 => by rw [hτ 34 (by decide)]; exact wf v q0 q1⟩)
      · rw [hτ 24 (by decide), hτ 25 (by decide), wo 24 (Or.inl rfl), wo 25 (Or.inr rfl)]
        exact iO_c sτ hO4
      · intro k q0 q1
        rw [hτ 24 (by decide), wo 24 (Or.inl rfl), q4 k q0 q1]
        exact sq3 k q0 q1
  · have c0 : μ 39 0 = 0 := s1.elim id (fun hh => absurd hh c)
    have k0 : μ 64 0 = 0 := by rw [s2]; exact c0
    have f := h (-3) μ (t_223n (by omega) (Or.inl rfl) k0 (h' _ _ μ rfl hA))
    clear s3
    obtain ⟨d, rfl⟩ := gD (show 1 ≤ D by omega)
    refine gC 300 [] rfl ?_
    (conv => whnf); try simp only [gO, gWe, ne_eq, Nat.reduceEqDiff, not_false_eq_true, true_or, or_true, true_and]
    repeat' (first | exact True.intro | (refine ⟨fun hb => ?_, fun hb => ?_⟩ <;> first | (exfalso; omega; done) | exact absurd True.intro hb | ((conv => whnf); try simp only [gO, gWe, ne_eq, Nat.reduceEqDiff, not_false_eq_true, true_or, or_true, true_and])) | (refine ⟨by omega, ?_⟩; (conv => whnf); try simp only [gO, gWe, ne_eq, Nat.reduceEqDiff, not_false_eq_true, true_or, or_true, true_and]) | (refine ⟨fun hb => ?_, ?_⟩ <;> first | (exfalso; omega; done) | exact absurd True.intro hb | ((conv => whnf); try simp only [gO, gWe, ne_eq, Nat.reduceEqDiff, not_false_eq_true, true_or, or_true, true_and])) | fail)
    refine t_123_0 (by omega) ?_
    (conv => whnf); try simp only [gO, gWe, ne_eq, Nat.reduceEqDiff, not_false_eq_true, true_or, or_true, true_and]
    repeat' (first | exact True.intro | (refine ⟨fun hb => ?_, fun hb => ?_⟩ <;> first | (exfalso; omega; done) | exact absurd True.intro hb | ((conv => whnf); try simp only [gO, gWe, ne_eq, Nat.reduceEqDiff, not_false_eq_true, true_or, or_true, true_and])) | (refine ⟨by omega, ?_⟩; (conv => whnf); try simp only [gO, gWe, ne_eq, Nat.reduceEqDiff, not_false_eq_true, true_or, or_true, true_and]) | (refine ⟨fun hb => ?_, ?_⟩ <;> first | (exfalso; omega; done) | exact absurd True.intro hb | ((conv => whnf); try simp only [gO, gWe, ne_eq, Nat.reduceEqDiff, not_false_eq_true, true_or, or_true, true_and])) | fail)
    exact f
theorem c_113_1 {D : Nat} (hD : 30 ≤ D) {μ : MU} (hA : iAll μ) : hCs D 113 223 [gI 1] μ := by
  intro Q Q' h h'
  obtain ⟨s1, s2, s3⟩ := hA.2.2.2.2.2
  by_cases c : μ 50 0 = 1
  · obtain ⟨ρ, iAρ, iBρ, kk, ⟨g1, g2, g3⟩, gi, ge, gs⟩ := s3 c
    have k1 : μ 64 1 = 1 := by rw [s2]; exact c
    have G := iAρ.1.1
    have hGρ := iAρ.1
    have l01 := iAρ.2.2.1
    have mod : ∀ (D : Nat) (hD : 20 ≤ D) (ν : MU) (Q : GQ), ν 63 = μ 63 → ν 64 = μ 64 → (∀ τ : MU, gFr [61, 62] ν τ → (∀ j : Int, j ≠ 5 → τ 61 j = ν 61 j) → τ 61 5 = 0 → (∀ k : Int, 0 ≤ k → k < 289 → τ 62 k = ρ 62 k) → Q (some (gI ((ρ 1 0)))) g_SH τ) → gCall g_T g_F D 223 [gR 61, gI 1] g_SH ν Q := fun D hD ν Q e63 e64 hq => by
      refine t_223 (by omega) (Or.inr rfl) (by rw [e64]; exact k1) (fun τ hτ w1 w2 w3 => ?_)
      have w : ∀ k : Int, 0 ≤ k → k < 289 → τ 62 k = ρ 62 k := fun k q0 q1 => by
        rw [w3 k q0 q1, e63, show 289 * 1 + k = (289 : Int) + k by omega]; exact kk k q0 q1
      have z := w 0 (by omega) (by omega)
      rw [z, iBρ.1.1.1]
      exact hq τ hτ w1 w2 w
    clear kk s3
    obtain ⟨d, rfl⟩ := gD (show 1 ≤ D by omega)
    refine gC 300 [] rfl ?_
    (conv => whnf); try simp only [gO, gWe, ne_eq, Nat.reduceEqDiff, not_false_eq_true, true_or, or_true, true_and]
    repeat' (first | exact True.intro | (refine ⟨fun hb => ?_, fun hb => ?_⟩ <;> first | (exfalso; omega; done) | exact absurd True.intro hb | ((conv => whnf); try simp only [gO, gWe, ne_eq, Nat.reduceEqDiff, not_false_eq_true, true_or, or_true, true_and])) | (refine ⟨by omega, ?_⟩; (conv => whnf); try simp only [gO, gWe, ne_eq, Nat.reduceEqDiff, not_false_eq_true, true_or, or_true, true_and]) | (refine ⟨fun hb => ?_, ?_⟩ <;> first | (exfalso; omega; done) | exact absurd True.intro hb | ((conv => whnf); try simp only [gO, gWe, ne_eq, Nat.reduceEqDiff, not_false_eq_true, true_or, or_true, true_and])) | fail)
    refine t_123_1 (by omega) ?_
    (conv => whnf); try simp only [gO, gWe, ne_eq, Nat.reduceEqDiff, not_false_eq_true, true_or, or_true, true_and]
    repeat' (first | exact True.intro | (refine ⟨fun hb => ?_, fun hb => ?_⟩ <;> first | (exfalso; omega; done) | exact absurd True.intro hb | ((conv => whnf); try simp only [gO, gWe, ne_eq, Nat.reduceEqDiff, not_false_eq_true, true_or, or_true, true_and])) | (refine ⟨by omega, ?_⟩; (conv => whnf); try simp only [gO, gWe, ne_eq, Nat.reduceEqDiff, not_false_eq_true, true_or, or_true, true_and]) | (refine ⟨fun hb => ?_, ?_⟩ <;> first | (exfalso; omega; done) | exact absurd True.intro hb | ((conv => whnf); try simp only [gO, gWe, ne_eq, Nat.reduceEqDiff, not_false_eq_true, true_or, or_true, true_and])) | fail)
    refine t_18r_51 (by omega) (fun ν₁ h1 v1 v2 v3 => ?_)
    have gr1 : hGr ν₁ ρ := ⟨⟨v1.1.trans g1, v1.2.trans g2⟩, fun i i0 i1 => ⟨(v2 i i0 (by omega)).1.trans (gi i i0 (by omega)).1, (v2 i i0 (by omega)).2.trans (gi i i0 (by omega)).2⟩, fun e e0 e1 => ⟨(v3 e e0 (by omega)).1.trans (ge e e0 (by omega)).1, (v3 e e0 (by omega)).2.1.trans (ge e e0 (by omega)).2.1, (v3 e e0 (by omega)).2.2.1.trans (ge e e0 (by omega)).2.2.1, (v3 e e0 (by omega)).2.2.2.1.trans (ge e e0 (by omega)).2.2.2.1, (v3 e e0 (by omega)).2.2.2.2.trans (ge e e0 (by omega)).2.2.2.2⟩⟩
    have hG1 := hGr_G gr1 hGρ
    (conv => whnf); try simp only [gO, gWe, ne_eq, Nat.reduceEqDiff, not_false_eq_true, true_or, or_true, true_and]
    repeat' (first | exact True.intro | (refine ⟨fun hb => ?_, fun hb => ?_⟩ <;> first | (exfalso; omega; done) | exact absurd True.intro hb | ((conv => whnf); try simp only [gO, gWe, ne_eq, Nat.reduceEqDiff, not_false_eq_true, true_or, or_true, true_and])) | (refine ⟨by omega, ?_⟩; (conv => whnf); try simp only [gO, gWe, ne_eq, Nat.reduceEqDiff, not_false_eq_true, true_or, or_true, true_and]) | (refine ⟨fun hb => ?_, ?_⟩ <;> first | (exfalso; omega; done) | exact absurd True.intro hb | ((conv => whnf); try simp only [gO, gWe, ne_eq, Nat.reduceEqDiff, not_false_eq_true, true_or, or_true, true_and])) | fail)
    refine t_116 (by omega) hG1 (fun ν₂ h2 hL2 l0 => ?_)
    have f2 : gFr [0, 1, 2, 3, 4, 5, 6, 7, 8, 9, 10, 11, 12, 13, 14, 15, 16, 17, 18] μ ν₂ := (h1.mo (by decide)).tr (h2.mo (by decide))
    have gr2 : hGr ν₂ ρ := hGr_c (fun c a b => h2 c (by simp only [List.mem_cons, List.not_mem_nil, or_false]; omega)) gr1
    have hG2 := hGr_G gr2 hGρ
    have ly2 := hLy_x hGρ gr2 hL2 iAρ.2.1
    have o1 : ν₂ 50 1 = (ρ 0 6) := by rw [f2 50 (by decide)]; exact g3
    have n2 : ν₂ 1 0 = (ρ 1 0) := gr2.1.1
    rcases l01 with lq | lq
    · rw [lq] at o1
      have f := h (ρ 1 0) ν₂ (mod _ (by omega) ν₂ _ (f2 63 (by decide)) (f2 64 (by decide)) (fun τ hτ w1 w2 w => h' _ _ τ rfl (fin_r hA iAρ iBρ (hGr_c (fun c a b => hτ c (by simp only [List.mem_cons, List.not_mem_nil, or_false]; omega)) gr2) (iL_g (fun c a b => hτ c (by simp only [List.mem_cons, List.not_mem_nil, or_false]; omega)) hL2) (by rw [hτ 0 (by decide), l0]; exact lq.symm) w w2 (by rw [w1 4 (by omega), f2 61 (by decide)]) (fun c a b => by rw [hτ c (by simp only [List.mem_cons, List.not_mem_nil, or_false]; omega), f2 c (by simp only [List.mem_cons, List.not_mem_nil, or_false]; omega)]) (fun hh => by rw [hτ 0 (by decide), l0] at hh; omega))))
      clear mod gi ge gs s1
      rw [← n2] at f
      (conv => whnf); try simp only [gO, gWe, ne_eq, Nat.reduceEqDiff, not_false_eq_true, true_or, or_true, true_and]
      repeat' (first | exact True.intro | (refine ⟨fun hb => ?_, fun hb => ?_⟩ <;> first | (exfalso; omega; done) | exact absurd True.intro hb | ((conv => whnf); try simp only [gO, gWe, ne_eq, Nat.reduceEqDiff, not_false_eq_true, true_or, or_true, true_and])) | (refine ⟨by omega, ?_⟩; (conv => whnf); try simp only [gO, gWe, ne_eq, Nat.reduceEqDiff, not_false_eq_true, true_or, or_true, true_and]) | (refine ⟨fun hb => ?_, ?_⟩ <;> first | (exfalso; omega; done) | exact absurd True.intro hb | ((conv => whnf); try simp only [gO, gWe, ne_eq, Nat.reduceEqDiff, not_false_eq_true, true_or, or_true, true_and])) | fail)
      exact f
    · rw [lq] at o1
      obtain ⟨dN, dO, dC, dX⟩ := iAρ.2.2.2 lq
      have hc : (ν₂ 1 0) + xTot ν₂ - (ν₂ 1 1) ≤ 60 := by
        have a := hBn_t hG2
        have b : (ρ 19 2) = (ρ 1 0) + hBn ρ (ρ 1 1) := dN.2.1
        have e : hBn ν₂ (ν₂ 1 1) = hBn ρ (ρ 1 1) := by
          unfold hBn
          rw [gr2.1.2]
          exact gSum_c _ (fun e e0 e1 => by
            have t := ly2.2.2 e e0 (by omega)
            show (ν₂ 15) e - (ν₂ 14) e - 1 = (ρ 15) e - (ρ 14) e - 1
            rw [t.2.2.2.1, t.2.2.2.2])
        have V := dN.1
        have q1 := gr2.1.1
        omega
      (conv => whnf); try simp only [gO, gWe, ne_eq, Nat.reduceEqDiff, not_false_eq_true, true_or, or_true, true_and]
      repeat' (first | exact True.intro | (refine ⟨fun hb => ?_, fun hb => ?_⟩ <;> first | (exfalso; omega; done) | exact absurd True.intro hb | ((conv => whnf); try simp only [gO, gWe, ne_eq, Nat.reduceEqDiff, not_false_eq_true, true_or, or_true, true_and])) | (refine ⟨by omega, ?_⟩; (conv => whnf); try simp only [gO, gWe, ne_eq, Nat.reduceEqDiff, not_false_eq_true, true_or, or_true, true_and]) | (refine ⟨fun hb => ?_, ?_⟩ <;> first | (exfalso; omega; done) | exact absurd True.intro hb | ((conv => whnf); try simp only [gO, gWe, ne_eq, Nat.reduceEqDiff, not_false_eq_true, true_or, or_true, true_and])) | fail)
      refine t_35 (by omega) hG2 hL2 hc (fun ν₃ s h3 _ hN3 _ _ => ?_)
      have sg : hSg ν₂ ν₃ := fun c a b => h3 c (by simp only [List.mem_cons, List.not_mem_nil, or_false]; omega)
      have gr3 : hGr ν₃ ρ := hGr_c (fun c a b => sg c a (by omega)) gr2
      have hL3 := iL_g sg hL2
      have hG3 := hGr_G gr3 hGρ
      have ly3 := hLy_x hGρ gr3 hL3 iAρ.2.1
      have vx := hVx hGρ gr3 ly3 iAρ.2.1 hN3 dN
      have f3 : gFr [0, 1, 2, 3, 4, 5, 6, 7, 8, 9, 10, 11, 12, 13, 14, 15, 16, 17, 18, 19, 20, 21, 22, 23, 24, 25, 28] μ ν₃ := (f2.mo (by decide)).tr (h3.mo (by decide))
      have sq3 : ∀ k : Int, 0 ≤ k → k < 60 → ν₃ 59 k = (ρ 24) k := fun k q0 q1 => by rw [f3 59 (by decide)]; exact (gs k q0 q1).1
      have hO3 : iO ν₃ (ν₃ 59) (ρ 25) := hIO hGρ iAρ.2.1 gr3 ly3 vx dN dO (fun k q0 q1 => sq3 k q0 (by have := dN.1; omega))
      (conv => whnf); try simp only [gO, gWe, ne_eq, Nat.reduceEqDiff, not_false_eq_true, true_or, or_true, true_and]
      repeat' (first | exact True.intro | (refine ⟨fun hb => ?_, fun hb => ?_⟩ <;> first | (exfalso; omega; done) | exact absurd True.intro hb | ((conv => whnf); try simp only [gO, gWe, ne_eq, Nat.reduceEqDiff, not_false_eq_true, true_or, or_true, true_and])) | (refine ⟨by omega, ?_⟩; (conv => whnf); try simp only [gO, gWe, ne_eq, Nat.reduceEqDiff, not_false_eq_true, true_or, or_true, true_and]) | (refine ⟨fun hb => ?_, ?_⟩ <;> first | (exfalso; omega; done) | exact absurd True.intro hb | ((conv => whnf); try simp only [gO, gWe, ne_eq, Nat.reduceEqDiff, not_false_eq_true, true_or, or_true, true_and])) | fail)
      refine t_47_59 (by omega) hG3 hL3 hN3 hO3 (fun ν₄ h4 q4 hO4 => ?_)
      have s4 : hSt ν₃ ν₄ := h4.st (by decide)
      (conv => whnf); try simp only [gO, gWe, ne_eq, Nat.reduceEqDiff, not_false_eq_true, true_or, or_true, true_and]
      repeat' (first | exact True.intro | (refine ⟨fun hb => ?_, fun hb => ?_⟩ <;> first | (exfalso; omega; done) | exact absurd True.intro hb | ((conv => whnf); try simp only [gO, gWe, ne_eq, Nat.reduceEqDiff, not_false_eq_true, true_or, or_true, true_and])) | (refine ⟨by omega, ?_⟩; (conv => whnf); try simp only [gO, gWe, ne_eq, Nat.reduceEqDiff, not_false_eq_true, true_or, or_true, true_and]) | (refine ⟨fun hb => ?_, ?_⟩ <;> first | (exfalso; omega; done) | exact absurd True.intro hb | ((conv => whnf); try simp only [gO, gWe, ne_eq, Nat.reduceEqDiff, not_false_eq_true, true_or, or_true, true_and])) | fail)
      have fω : gFr [0, 1, 2, 3, 4, 5, 6, 7, 8, 9, 10, 11, 12, 13, 14, 15, 16, 17, 18, 19, 20, 21, 22, 23, 24, 25, 28, 34] μ (gW (gCp ν₄ 60 0 34 0 60) 0 6 1) := (((f3.mo (by decide)).tr (h4.mo (by decide))).C (by decide)).W (by decide)
      have sω : hSt ν₃ (gW (gCp ν₄ 60 0 34 0 60) 0 6 1) := fun c a b => by rw [gO (by omega), gCp_n (by omega)]; exact s4 c a b
      have wl : (gW (gCp ν₄ 60 0 34 0 60) 0 6 1) 0 6 = 1 := gWe _ _ _ _
      have wo : ∀ c : Nat, c = 24 ∨ c = 25 → (gW (gCp ν₄ 60 0 34 0 60) 0 6 1) c = ν₄ c := fun c hc => by rw [gO (by omega), gCp_n (by omega)]
      have wf : ∀ v : Int, 0 ≤ v → v < 60 → (gW (gCp ν₄ 60 0 34 0 60) 0 6 1) 34 v = (ρ 34) v := fun v q0 q1 => by
        rw [gO (by decide), gCp_i q0 q1, h4 60 (by decide), f3 60 (by decide)]; exact (gs v q0 q1).2
      have rr : gCp ν₄ 60 0 34 0 60 1 0 = (ρ 1 0) := by rw [gCp_n (by decide), h4 1 (by decide)]; exact gr3.1.1
      repeat' (first | exact True.intro | (refine ⟨fun hb => ?_, fun hb => ?_⟩ <;> first | (exfalso; omega; done) | exact absurd True.intro hb | ((conv => whnf); try simp only [gO, gWe, ne_eq, Nat.reduceEqDiff, not_false_eq_true, true_or, or_true, true_and])) | (refine ⟨by omega, ?_⟩; (conv => whnf); try simp only [gO, gWe, ne_eq, Nat.reduceEqDiff, not_false_eq_true, true_or, or_true, true_and]) | (refine ⟨fun hb => ?_, ?_⟩ <;> first | (exfalso; omega; done) | exact absurd True.intro hb | ((conv => whnf); try simp only [gO, gWe, ne_eq, Nat.reduceEqDiff, not_false_eq_true, true_or, or_true, true_and])) | fail)
      (conv => whnf); try simp only [gO, gWe, ne_eq, Nat.reduceEqDiff, not_false_eq_true, true_or, or_true, true_and]
      repeat' (first | exact True.intro | (refine ⟨fun hb => ?_, fun hb => ?_⟩ <;> first | (exfalso; omega; done) | exact absurd True.intro hb | ((conv => whnf); try simp only [gO, gWe, ne_eq, Nat.reduceEqDiff, not_false_eq_true, true_or, or_true, true_and])) | (refine ⟨by omega, ?_⟩; (conv => whnf); try simp only [gO, gWe, ne_eq, Nat.reduceEqDiff, not_false_eq_true, true_or, or_true, true_and]) | (refine ⟨fun hb => ?_, ?_⟩ <;> first | (exfalso; omega; done) | exact absurd True.intro hb | ((conv => whnf); try simp only [gO, gWe, ne_eq, Nat.reduceEqDiff, not_false_eq_true, true_or, or_true, true_and])) | fail)
      rw [rr]
      generalize gW (gCp ν₄ 60 0 34 0 60) 0 6 1 = ω at *
      refine h (ρ 1 0) ω (mod _ (by omega) ω _ (fω 63 (by decide)) (fω 64 (by decide)) (fun τ hτ w1 w2 w => h' _ _ τ rfl ?_))
      have sτ : hSt ν₃ τ := sω.tr (hτ.st (by decide))
      refine fin_r hA iAρ iBρ (hGr_c (fun c a b => sτ c a (by omega)) gr3) (iL_c sτ hL3) (by rw [hτ 0 (by decide), wl]; exact lq.symm) w w2 (by rw [w1 4 (by omega), fω 61 (by decide)]) (fun c a b => by rw [hτ c (by simp only [List.mem_cons, List.not_mem_nil, or_false]; omega), fω c (by simp only [List.mem_cons, List.not_mem_nil, or_false]; omega)]) (fun _ => ⟨iN_c sτ hN3, ?_, ?_, fun v q0 q1 => by rw [hτ 34 (by decide)]; exact wf v q0 q1⟩)
      · rw [hτ 24 (by decide), hτ 25 (by decide), wo 24 (Or.inl rfl), wo 25 (Or.inr rfl)]
        exact iO_c sτ hO4
      · intro k q0 q1
        rw [hτ 24 (by decide), wo 24 (Or.inl rfl), q4 k q0 q1]
        exact sq3 k q0 q1
  · have c0 : μ 50 0 = 0 := s1.elim id (fun hh => absurd hh c)
    have k0 : μ 64 1 = 0 := by rw [s2]; exact c0
    have f := h (-3) μ (t_223n (by omega) (Or.inr rfl) k0 (h' _ _ μ rfl hA))
    clear s3
    obtain ⟨d, rfl⟩ := gD (show 1 ≤ D by omega)
    refine gC 300 [] rfl ?_
    (conv => whnf); try simp only [gO, gWe, ne_eq, Nat.reduceEqDiff, not_false_eq_true, true_or, or_true, true_and]
    repeat' (first | exact True.intro | (refine ⟨fun hb => ?_, fun hb => ?_⟩ <;> first | (exfalso; omega; done) | exact absurd True.intro hb | ((conv => whnf); try simp only [gO, gWe, ne_eq, Nat.reduceEqDiff, not_false_eq_true, true_or, or_true, true_and])) | (refine ⟨by omega, ?_⟩; (conv => whnf); try simp only [gO, gWe, ne_eq, Nat.reduceEqDiff, not_false_eq_true, true_or, or_true, true_and]) | (refine ⟨fun hb => ?_, ?_⟩ <;> first | (exfalso; omega; done) | exact absurd True.intro hb | ((conv => whnf); try simp only [gO, gWe, ne_eq, Nat.reduceEqDiff, not_false_eq_true, true_or, or_true, true_and])) | fail)
    refine t_123_1 (by omega) ?_
    (conv => whnf); try simp only [gO, gWe, ne_eq, Nat.reduceEqDiff, not_false_eq_true, true_or, or_true, true_and]
    repeat' (first | exact True.intro | (refine ⟨fun hb => ?_, fun hb => ?_⟩ <;> first | (exfalso; omega; done) | exact absurd True.intro hb | ((conv => whnf); try simp only [gO, gWe, ne_eq, Nat.reduceEqDiff, not_false_eq_true, true_or, or_true, true_and])) | (refine ⟨by omega, ?_⟩; (conv => whnf); try simp only [gO, gWe, ne_eq, Nat.reduceEqDiff, not_false_eq_true, true_or, or_true, true_and]) | (refine ⟨fun hb => ?_, ?_⟩ <;> first | (exfalso; omega; done) | exact absurd True.intro hb | ((conv => whnf); try simp only [gO, gWe, ne_eq, Nat.reduceEqDiff, not_false_eq_true, true_or, or_true, true_and])) | fail)
    exact f
theorem c_113 {D : Nat} (hD : 30 ≤ D) {μ : MU} (hA : iAll μ) {s : Int} : hCs D 113 223 [gI s] μ := by
  by_cases c0 : s = 0
  · rw [c0]; exact c_113_0 hD hA
  · by_cases c1 : s = 1
    · rw [c1]; exact c_113_1 hD hA
    · intro Q Q' h h'
      have bad : ∀ (D : Nat) (hD : 20 ≤ D) (Q : GQ), Q (some (gI (-1))) g_SH μ → gCall g_T g_F D 223 [gR 61, gI s] g_SH μ Q := by
        intro D hD Q k
        obtain ⟨d, rfl⟩ := gD (show 1 ≤ D by omega)
        refine gC 300 [] rfl ?_
        (conv => whnf); try simp only [gO, gWe, ne_eq, Nat.reduceEqDiff, not_false_eq_true, true_or, or_true, true_and]
        repeat' (first | exact True.intro | (refine ⟨fun hb => ?_, fun hb => ?_⟩ <;> first | (exfalso; omega; done) | exact absurd True.intro hb | ((conv => whnf); try simp only [gO, gWe, ne_eq, Nat.reduceEqDiff, not_false_eq_true, true_or, or_true, true_and])) | (refine ⟨by omega, ?_⟩; (conv => whnf); try simp only [gO, gWe, ne_eq, Nat.reduceEqDiff, not_false_eq_true, true_or, or_true, true_and]) | (refine ⟨fun hb => ?_, ?_⟩ <;> first | (exfalso; omega; done) | exact absurd True.intro hb | ((conv => whnf); try simp only [gO, gWe, ne_eq, Nat.reduceEqDiff, not_false_eq_true, true_or, or_true, true_and])) | fail)
        refine t_125 (by omega) (fun c => by omega) (fun _ => ?_)
        (conv => whnf); try simp only [gO, gWe, ne_eq, Nat.reduceEqDiff, not_false_eq_true, true_or, or_true, true_and]
        repeat' (first | exact True.intro | (refine ⟨fun hb => ?_, fun hb => ?_⟩ <;> first | (exfalso; omega; done) | exact absurd True.intro hb | ((conv => whnf); try simp only [gO, gWe, ne_eq, Nat.reduceEqDiff, not_false_eq_true, true_or, or_true, true_and])) | (refine ⟨by omega, ?_⟩; (conv => whnf); try simp only [gO, gWe, ne_eq, Nat.reduceEqDiff, not_false_eq_true, true_or, or_true, true_and]) | (refine ⟨fun hb => ?_, ?_⟩ <;> first | (exfalso; omega; done) | exact absurd True.intro hb | ((conv => whnf); try simp only [gO, gWe, ne_eq, Nat.reduceEqDiff, not_false_eq_true, true_or, or_true, true_and])) | fail)
        exact k
      have f := h _ μ (bad _ (by omega) _ (h' _ _ μ rfl hA))
      clear bad
      obtain ⟨d, rfl⟩ := gD (show 1 ≤ D by omega)
      refine gC 300 [] rfl ?_
      (conv => whnf); try simp only [gO, gWe, ne_eq, Nat.reduceEqDiff, not_false_eq_true, true_or, or_true, true_and]
      repeat' (first | exact True.intro | (refine ⟨fun hb => ?_, fun hb => ?_⟩ <;> first | (exfalso; omega; done) | exact absurd True.intro hb | ((conv => whnf); try simp only [gO, gWe, ne_eq, Nat.reduceEqDiff, not_false_eq_true, true_or, or_true, true_and])) | (refine ⟨by omega, ?_⟩; (conv => whnf); try simp only [gO, gWe, ne_eq, Nat.reduceEqDiff, not_false_eq_true, true_or, or_true, true_and]) | (refine ⟨fun hb => ?_, ?_⟩ <;> first | (exfalso; omega; done) | exact absurd True.intro hb | ((conv => whnf); try simp only [gO, gWe, ne_eq, Nat.reduceEqDiff, not_false_eq_true, true_or, or_true, true_and])) | fail)
      refine t_123_n (by omega) c0 c1 ?_
      (conv => whnf); try simp only [gO, gWe, ne_eq, Nat.reduceEqDiff, not_false_eq_true, true_or, or_true, true_and]
      repeat' (first | exact True.intro | (refine ⟨fun hb => ?_, fun hb => ?_⟩ <;> first | (exfalso; omega; done) | exact absurd True.intro hb | ((conv => whnf); try simp only [gO, gWe, ne_eq, Nat.reduceEqDiff, not_false_eq_true, true_or, or_true, true_and])) | (refine ⟨by omega, ?_⟩; (conv => whnf); try simp only [gO, gWe, ne_eq, Nat.reduceEqDiff, not_false_eq_true, true_or, or_true, true_and]) | (refine ⟨fun hb => ?_, ?_⟩ <;> first | (exfalso; omega; done) | exact absurd True.intro hb | ((conv => whnf); try simp only [gO, gWe, ne_eq, Nat.reduceEqDiff, not_false_eq_true, true_or, or_true, true_and])) | fail)
      exact f
