/-! the case align, its end -/
theorem t_202y {d : Nat} (hd : 8 ≤ d) {ρ : MU} {Q : GQ} {sq pl l : Int → Int} (hK : iK ρ sq pl) (hX : hLb ρ l) (h0 : ∀ k : Int, 0 ≤ k → k < (ρ 19 2) → ρ 62 (229 + k) = l (sq k)) (kk : ∀ (τ : MU) (x1 x2 x3 x4 : GV), gFr [62, 78] ρ τ → hSl ρ τ → hLf ρ τ sq (alY ρ sq l ((ρ 9 1) - 1).toNat) → gG g_T g_F (gCall g_T g_F d) 0 (fun _ => 0) (g_T 202) Q 174 [gR 61, x1, x2, x3, x4] [] g_SH τ 0 0) (x2 x3 x4 : GV) : gG g_T g_F (gCall g_T g_F d) 0 (fun _ => 0) (g_T 202) Q 18 [gR 61, gI 1, x2, x3, x4] [] g_SH ρ 0 0 := by
  have hG := hK.1.1
  have hL := hK.1.2.1
  have hN := hK.2.1
  have hO := hK.2.2.2.1
  have V := hN.1
  have G := hG.1
  have L := hL.2.2.2.1
  have m4 := hK.2.2.1.1.2
  have out : ∀ y : Int, 1 ≤ y → y ≤ (if (ρ 9 1) < 1 then 1 else (ρ 9 1)) → ∀ (τ : MU) (x2 x3 x4 : GV), gFr [62, 78] ρ τ → hSl ρ τ → hLf ρ τ sq (alY ρ sq l (y - 1).toNat) → gG g_T g_F (gCall g_T g_F d) 0 (fun _ => 0) (g_T 202) Q 18 [gR 61, gI y, x2, x3, x4] [] g_SH τ 0 0 := by
    refine g_up (fun y y0 y1 ih τ x2 x3 x4 hτ hsl hl => ?_) (fun τ x2 x3 x4 hτ hsl hl => ?_)
    · have y1' : y < (ρ 9 1) := by
        by_cases c : (ρ 9 1) < 1
        · rw [if_pos c] at y1; omega
        · rw [if_neg c] at y1; exact y1
      clear y1
      have st := (iN_st hG hL hN).1 y (by omega) y1'
      have lb := alY_b hG hL hN hO hX (y - 1).toNat (by omega)
      have e : alY ρ sq l (y + 1 - 1).toNat = alK ρ sq (alY ρ sq l (y - 1).toNat) y ((ρ 23) (y + 1) - (ρ 23) y).toNat := by
        rw [show (y + 1 - 1).toNat = (y - 1).toNat + 1 by omega]
        show alK ρ sq _ (((y - 1).toNat : Int) + 1) ((ρ 23) (((y - 1).toNat : Int) + 2) - (ρ 23) (((y - 1).toNat : Int) + 1)).toNat = _
        rw [show ((y - 1).toNat : Int) + 1 = y by omega, show ((y - 1).toNat : Int) + 2 = y + 1 by omega]
      rw [e] at ih
      generalize alY ρ sq l (y - 1).toNat = l' at *
      have inn : ∀ j : Int, 0 ≤ j → j ≤ (ρ 23) (y + 1) - (ρ 23) y → ∀ (τ : MU) (x3 x4 : GV), gFr [62, 78] ρ τ → hSl ρ τ → hLf ρ τ sq (alK ρ sq l' y j.toNat) → gG g_T g_F (gCall g_T g_F d) 0 (fun _ => 0) (g_T 202) Q 38 [gR 61, gI y, gI ((ρ 23) (y + 1) - 1 - j), x3, x4] [] g_SH τ 0 0 := by
        refine g_up (fun j j0 j1 ihj τ x3 x4 hτ hsl hl => ?_) (fun τ x3 x4 hτ hsl hl => ?_)
        · refine t_202j hd hK lb y0 y1' j0 j1 hτ hsl hl (fun ω x3 x4 hω hslω hlω => ?_)
          have i := ihj ω (gI x3) (gI x4) hω hslω hlω
          rw [show (ρ 23) (y + 1) - 1 - (j + 1) = (ρ 23) (y + 1) - 1 - j - 1 by omega] at i
          exact i
        · have sτ : hSt ρ τ := hτ.st (by decide)
          have hKτ : iK τ sq pl := hsl.k hτ (by decide) (by decide) (by decide) hK
          have i := fun x2 => ih τ x2 x3 x4 hτ hsl hl
          have f23y : (τ 23) y = (ρ 23) y := by rw [sτ 23 (by decide) (by decide)]
          clear ih hl kk
          refine gB_gG [38,18] 300 ?_
          (conv => whnf); try simp only [gO, gWe, ne_eq, Nat.reduceEqDiff, not_false_eq_true, true_or, or_true, true_and]
          refine t_160 (by omega) hKτ.1.2.1 hKτ.2.2.1 (by omega) (by rw [sτ 9 (by decide) (by decide)]; omega) ?_
          rw [f23y]
          (conv => whnf); try simp only [gO, gWe, ne_eq, Nat.reduceEqDiff, not_false_eq_true, true_or, or_true, true_and]
          repeat' (first | exact True.intro | (refine ⟨fun hb => ?_, fun hb => ?_⟩ <;> first | (exfalso; omega; done) | exact absurd True.intro hb | ((conv => whnf); try simp only [gO, gWe, ne_eq, Nat.reduceEqDiff, not_false_eq_true, true_or, or_true, true_and])) | (refine ⟨by omega, ?_⟩; (conv => whnf); try simp only [gO, gWe, ne_eq, Nat.reduceEqDiff, not_false_eq_true, true_or, or_true, true_and]) | (refine ⟨fun hb => ?_, ?_⟩ <;> first | (exfalso; omega; done) | exact absurd True.intro hb | ((conv => whnf); try simp only [gO, gWe, ne_eq, Nat.reduceEqDiff, not_false_eq_true, true_or, or_true, true_and])) | fail)
          exact i _
      have sτ : hSt ρ τ := hτ.st (by decide)
      have hKτ : iK τ sq pl := hsl.k hτ (by decide) (by decide) (by decide) hK
      have i := inn 0 (by omega) (by omega) τ x3 x4 hτ hsl hl
      rw [show (ρ 23) (y + 1) - 1 - 0 = (ρ 23) (y + 1) - 1 by omega] at i
      have f23y : (τ 23) (y + 1) = (ρ 23) (y + 1) := by rw [sτ 23 (by decide) (by decide)]
      have z4 : τ 62 4 = (ρ 9 1) := by rw [hsl 4 (by omega)]; exact m4
      clear inn ih hl kk
      refine gB_gG [18,38] 300 ?_
      (conv => whnf); try simp only [gO, gWe, ne_eq, Nat.reduceEqDiff, not_false_eq_true, true_or, or_true, true_and]
      repeat' (first | exact True.intro | (refine ⟨fun hb => ?_, fun hb => ?_⟩ <;> first | (exfalso; omega; done) | exact absurd True.intro hb | ((conv => whnf); try simp only [gO, gWe, ne_eq, Nat.reduceEqDiff, not_false_eq_true, true_or, or_true, true_and])) | (refine ⟨by omega, ?_⟩; (conv => whnf); try simp only [gO, gWe, ne_eq, Nat.reduceEqDiff, not_false_eq_true, true_or, or_true, true_and]) | (refine ⟨fun hb => ?_, ?_⟩ <;> first | (exfalso; omega; done) | exact absurd True.intro hb | ((conv => whnf); try simp only [gO, gWe, ne_eq, Nat.reduceEqDiff, not_false_eq_true, true_or, or_true, true_and])) | fail)
      refine t_160 (by omega) hKτ.1.2.1 hKτ.2.2.1 (by omega) (by rw [sτ 9 (by decide) (by decide)]; omega) ?_
      rw [f23y]
      (conv => whnf); try simp only [gO, gWe, ne_eq, Nat.reduceEqDiff, not_false_eq_true, true_or, or_true, true_and]
      repeat' (first | exact True.intro | (refine ⟨fun hb => ?_, fun hb => ?_⟩ <;> first | (exfalso; omega; done) | exact absurd True.intro hb | ((conv => whnf); try simp only [gO, gWe, ne_eq, Nat.reduceEqDiff, not_false_eq_true, true_or, or_true, true_and])) | (refine ⟨by omega, ?_⟩; (conv => whnf); try simp only [gO, gWe, ne_eq, Nat.reduceEqDiff, not_false_eq_true, true_or, or_true, true_and]) | (refine ⟨fun hb => ?_, ?_⟩ <;> first | (exfalso; omega; done) | exact absurd True.intro hb | ((conv => whnf); try simp only [gO, gWe, ne_eq, Nat.reduceEqDiff, not_false_eq_true, true_or, or_true, true_and])) | fail)
      exact i
    · have z4 : τ 62 4 = (ρ 9 1) := by rw [hsl 4 (by omega)]; exact m4
      have f := fun x1 => kk τ x1 x2 x3 x4 hτ hsl (by
        by_cases c : (ρ 9 1) < 1
        · rw [if_pos c] at hl
          rw [show ((ρ 9 1) - 1).toNat = (1 - 1 : Int).toNat by omega]; exact hl
        · rw [if_neg c] at hl; exact hl)
      clear kk hl
      by_cases c : (ρ 9 1) < 1
      · rw [if_pos c]
        refine gB_gG [18,174] 300 ?_
        (conv => whnf); try simp only [gO, gWe, ne_eq, Nat.reduceEqDiff, not_false_eq_true, true_or, or_true, true_and]
        repeat' (first | exact True.intro | (refine ⟨fun hb => ?_, fun hb => ?_⟩ <;> first | (exfalso; omega; done) | exact absurd True.intro hb | ((conv => whnf); try simp only [gO, gWe, ne_eq, Nat.reduceEqDiff, not_false_eq_true, true_or, or_true, true_and])) | (refine ⟨by omega, ?_⟩; (conv => whnf); try simp only [gO, gWe, ne_eq, Nat.reduceEqDiff, not_false_eq_true, true_or, or_true, true_and]) | (refine ⟨fun hb => ?_, ?_⟩ <;> first | (exfalso; omega; done) | exact absurd True.intro hb | ((conv => whnf); try simp only [gO, gWe, ne_eq, Nat.reduceEqDiff, not_false_eq_true, true_or, or_true, true_and])) | fail)
        exact f _
      · rw [if_neg c]
        refine gB_gG [18,174] 300 ?_
        (conv => whnf); try simp only [gO, gWe, ne_eq, Nat.reduceEqDiff, not_false_eq_true, true_or, or_true, true_and]
        repeat' (first | exact True.intro | (refine ⟨fun hb => ?_, fun hb => ?_⟩ <;> first | (exfalso; omega; done) | exact absurd True.intro hb | ((conv => whnf); try simp only [gO, gWe, ne_eq, Nat.reduceEqDiff, not_false_eq_true, true_or, or_true, true_and])) | (refine ⟨by omega, ?_⟩; (conv => whnf); try simp only [gO, gWe, ne_eq, Nat.reduceEqDiff, not_false_eq_true, true_or, or_true, true_and]) | (refine ⟨fun hb => ?_, ?_⟩ <;> first | (exfalso; omega; done) | exact absurd True.intro hb | ((conv => whnf); try simp only [gO, gWe, ne_eq, Nat.reduceEqDiff, not_false_eq_true, true_or, or_true, true_and])) | fail)
        exact f _
  exact out 1 (by omega) (by split <;> omega) ρ x2 x3 x4 gFr.rf (fun _ _ => rfl) h0
theorem fin_a {μ τ : MU} (hA : iAll μ) (l1 : (μ 0 6) = 1) (hτ : gFr [26, 27, 28, 29, 30, 31, 32, 34, 35, 61, 62, 66, 67, 68, 69, 70, 71, 72, 73, 74, 75, 76, 77, 78, 79, 80] μ τ) (h61 : ∀ j : Int, j ≠ 5 → τ 61 j = μ 61 j) (hf : (τ 61 5) = 1) (hsl : ∀ k : Int, k < 229 → τ 62 k = μ 62 k) (hM : iM τ) (hb : hLb μ (τ 34)) (hx : ∀ k : Int, 0 ≤ k → k < (μ 19 2) → τ 62 (229 + k) = (τ 34) ((μ 24) k)) : iAll τ := by
  have st : hSt μ τ := hτ.st (by decide)
  obtain ⟨a1, a2, a3, a4, a5⟩ := hA
  obtain ⟨dN, dO, dC, dX⟩ := a1.2.2.2 l1
  obtain ⟨mS, mq, mx⟩ := a2.2.2 l1
  have l1' : (τ 0 6) = 1 := by rw [hτ 0 (by decide)]; exact l1
  have e24 : (τ 24) = (μ 24) := hτ 24 (by decide)
  have e25 : (τ 25) = (μ 25) := hτ 25 (by decide)
  have e19 : (τ 19 2) = (μ 19 2) := by rw [st 19 (by decide) (by decide)]
  have L := a1.2.1.2.2.2.1
  refine ⟨⟨hM.1, hM.2.1, Or.inr l1', fun _ => ⟨iN_c st dN, by rw [e24, e25]; exact iO_c st dO, fun y y0 y1 => ?_, fun v v0 v1 => hb v v0 (by omega)⟩⟩, ⟨hM.2.2.1, ⟨by rw [hsl 2 (by omega), hτ 0 (by decide)]; exact a2.2.1.1, by rw [hsl 129 (by omega)]; exact a2.2.1.2⟩, fun _ => ⟨?_, fun k k0 k1 => ?_, fun k k0 k1 => ?_⟩⟩, ⟨Or.inr hf, fun _ => hM.2.2.2⟩, ?_, ?_⟩
  · rw [st 9 (by decide) (by decide)] at y1
    rw [e24]; exact iC_c st (dC y y0 y1)
  · unfold iDs at *
    rw [st 19 (by decide) (by decide), st 9 (by decide) (by decide), st 23 (by decide) (by decide), hsl 3 (by omega), hsl 4 (by omega)]
    exact ⟨mS.1, fun y y0 y1 => by rw [hsl _ (by omega)]; exact mS.2 y y0 y1⟩
  · rw [e19] at k1
    have V := dN.1
    rw [hsl _ (by omega), st 20 (by decide) (by decide), e24]
    exact mq k k0 k1
  · rw [e19] at k1
    rw [e24]; exact hx k k0 k1
  · exact hRs_T ⟨fun c a b => hτ c (fun hc => by simp only [List.mem_cons, List.not_mem_nil, or_false] at hc; omega), by rw [hτ 36 (by decide)], h61 4 (by decide), hτ 63 (by decide), hτ 64 (by decide)⟩ (hτ 65 (by decide)) a4
  · exact hRs_S ⟨fun c a b => hτ c (fun hc => by simp only [List.mem_cons, List.not_mem_nil, or_false] at hc; omega), by rw [hτ 36 (by decide)], h61 4 (by decide), hτ 63 (by decide), hτ 64 (by decide)⟩ a5
theorem c_101 {D : Nat} (hD : 30 ≤ D) {μ : MU} (hA : iAll μ) : hCs D 101 202 [] μ := by
  intro Q Q' h h'
  by_cases l1 : (μ 0 6) = 1
  · skip
    have hG := hA.1.1
    have hL := hA.1.2.1
    obtain ⟨hN, hO, hC, hX⟩ := hA.1.2.2.2 l1
    obtain ⟨hS, hq, hx⟩ := hA.2.1.2.2 l1
    have ml := hA.2.1.2.1
    have G := hG.1
    have L := hL.2.2.2.1
    have V := hN.1
    have M := hA.2.1.1.1
    have lb : hLb μ (alY μ (μ 24) (μ 34) ((μ 9 1) - 1).toNat) := alY_b hG hL hN hO hX _ (by omega)
    obtain ⟨d, rfl⟩ := gD (show 1 ≤ D by omega)
    refine gC 300 [] rfl ?_
    (conv => whnf); try simp only [gO, gWe, ne_eq, Nat.reduceEqDiff, not_false_eq_true, true_or, or_true, true_and]
    repeat' (first | exact True.intro | (refine ⟨fun hb => ?_, fun hb => ?_⟩ <;> first | (exfalso; omega; done) | exact absurd True.intro hb | ((conv => whnf); try simp only [gO, gWe, ne_eq, Nat.reduceEqDiff, not_false_eq_true, true_or, or_true, true_and])) | (refine ⟨by omega, ?_⟩; (conv => whnf); try simp only [gO, gWe, ne_eq, Nat.reduceEqDiff, not_false_eq_true, true_or, or_true, true_and]) | (refine ⟨fun hb => ?_, ?_⟩ <;> first | (exfalso; omega; done) | exact absurd True.intro hb | ((conv => whnf); try simp only [gO, gWe, ne_eq, Nat.reduceEqDiff, not_false_eq_true, true_or, or_true, true_and])) | fail)
    refine t_2 (by omega) hG hL hN hO hX (fun ν hν hl => ?_)
    have sν : hSt μ ν := hν.st (by decide)
    have e19 : (ν 19 2) = (μ 19 2) := by rw [sν 19 (by decide) (by decide)]
    (conv => whnf); try simp only [gO, gWe, ne_eq, Nat.reduceEqDiff, not_false_eq_true, true_or, or_true, true_and]
    repeat' (first | exact True.intro | (refine ⟨fun hb => ?_, fun hb => ?_⟩ <;> first | (exfalso; omega; done) | exact absurd True.intro hb | ((conv => whnf); try simp only [gO, gWe, ne_eq, Nat.reduceEqDiff, not_false_eq_true, true_or, or_true, true_and])) | (refine ⟨by omega, ?_⟩; (conv => whnf); try simp only [gO, gWe, ne_eq, Nat.reduceEqDiff, not_false_eq_true, true_or, or_true, true_and]) | (refine ⟨fun hb => ?_, ?_⟩ <;> first | (exfalso; omega; done) | exact absurd True.intro hb | ((conv => whnf); try simp only [gO, gWe, ne_eq, Nat.reduceEqDiff, not_false_eq_true, true_or, or_true, true_and])) | fail)
    refine t_6 (by omega) (iG_c sν hG) (by omega) (fun v v0 v1 => by rw [hl]; exact lb v v0 (by omega)) ?_
    have m4 : (ν 62 2) = 1 := by rw [hν 62 (by decide)]; omega
    have xr : xRt ν = fun v => alY μ (μ 24) (μ 34) ((μ 9 1) - 1).toNat v + xWd μ v := by
      funext v
      unfold xRt
      rw [hl, xWd_c sν]
    (conv => whnf); try simp only [gO, gWe, ne_eq, Nat.reduceEqDiff, not_false_eq_true, true_or, or_true, true_and]
    repeat' (first | exact True.intro | (refine ⟨fun hb => ?_, fun hb => ?_⟩ <;> first | (exfalso; omega; done) | exact absurd True.intro hb | ((conv => whnf); try simp only [gO, gWe, ne_eq, Nat.reduceEqDiff, not_false_eq_true, true_or, or_true, true_and])) | (refine ⟨by omega, ?_⟩; (conv => whnf); try simp only [gO, gWe, ne_eq, Nat.reduceEqDiff, not_false_eq_true, true_or, or_true, true_and]) | (refine ⟨fun hb => ?_, ?_⟩ <;> first | (exfalso; omega; done) | exact absurd True.intro hb | ((conv => whnf); try simp only [gO, gWe, ne_eq, Nat.reduceEqDiff, not_false_eq_true, true_or, or_true, true_and])) | fail)
    refine h _ ν ?_
    refine gC 300 [18] rfl ?_
    (conv => whnf); try simp only [gO, gWe, ne_eq, Nat.reduceEqDiff, not_false_eq_true, true_or, or_true, true_and]
    repeat' (first | exact True.intro | (refine ⟨fun hb => ?_, fun hb => ?_⟩ <;> first | (exfalso; omega; done) | exact absurd True.intro hb | ((conv => whnf); try simp only [gO, gWe, ne_eq, Nat.reduceEqDiff, not_false_eq_true, true_or, or_true, true_and])) | (refine ⟨by omega, ?_⟩; (conv => whnf); try simp only [gO, gWe, ne_eq, Nat.reduceEqDiff, not_false_eq_true, true_or, or_true, true_and]) | (refine ⟨fun hb => ?_, ?_⟩ <;> first | (exfalso; omega; done) | exact absurd True.intro hb | ((conv => whnf); try simp only [gO, gWe, ne_eq, Nat.reduceEqDiff, not_false_eq_true, true_or, or_true, true_and])) | fail)
    refine m_begin (by omega) hA l1 (hν.mo (by decide)) (fun ρ hρ h61 hf hK => ?_)
    have sρ : hSt μ ρ := sν.tr (hρ.st (by decide))
    have e62 : ρ 62 = μ 62 := by rw [hρ 62 (by decide), hν 62 (by decide)]
    have v9 : (ρ 19 2) = (μ 19 2) := by rw [sρ 19 (by decide) (by decide)]
    have l9 : (ρ 9 1) = (μ 9 1) := by rw [sρ 9 (by decide) (by decide)]
    (conv => whnf); try simp only [gO, gWe, ne_eq, Nat.reduceEqDiff, not_false_eq_true, true_or, or_true, true_and]
    repeat' (first | exact True.intro | (refine ⟨fun hb => ?_, fun hb => ?_⟩ <;> first | (exfalso; omega; done) | exact absurd True.intro hb | ((conv => whnf); try simp only [gO, gWe, ne_eq, Nat.reduceEqDiff, not_false_eq_true, true_or, or_true, true_and])) | (refine ⟨by omega, ?_⟩; (conv => whnf); try simp only [gO, gWe, ne_eq, Nat.reduceEqDiff, not_false_eq_true, true_or, or_true, true_and]) | (refine ⟨fun hb => ?_, ?_⟩ <;> first | (exfalso; omega; done) | exact absurd True.intro hb | ((conv => whnf); try simp only [gO, gWe, ne_eq, Nat.reduceEqDiff, not_false_eq_true, true_or, or_true, true_and])) | fail)
    refine t_202y (by omega) (l := (μ 34)) hK (fun v v0 v1 => hX v v0 (by omega)) (fun k k0 k1 => by rw [e62]; exact hx k k0 (by omega)) (fun τ x1 x2 x3 x4 hτ hsl hlf => ?_) _ _ _
    have sτ : hSt ρ τ := hτ.st (by decide)
    have hKτ : iK τ (μ 24) (μ 25) := hsl.k hτ (by decide) (by decide) (by decide) hK
    have e34 : (τ 34) = alY μ (μ 24) (μ 34) ((μ 9 1) - 1).toNat := by rw [hτ 34 (by decide), hρ 34 (by decide)]; exact hl
    unfold hLf at hlf
    rw [alY_c sρ, v9, l9] at hlf
    have fin : iAll τ := fin_a hA l1 ((hν.mo (by decide)).tr ((hρ.mo (by decide)).tr (hτ.mo (by decide)))) (fun j hj => by rw [hτ 61 (by decide)]; exact h61 j hj) (by rw [hτ 61 (by decide)]; exact hf) (fun k hk => by rw [hsl k hk, e62]) hKτ.1 (by rw [e34]; exact lb) (fun k k0 k1 => by rw [e34]; exact hlf k k0 k1)
    have l1τ : (τ 0 6) = 1 := by rw [hτ 0 (by decide), hρ 0 (by decide), hν 0 (by decide)]; exact l1
    have xr2 : xRt τ = xRt ν := by
      funext v
      rw [xr]
      unfold xRt
      rw [e34, xWd_c (sρ.tr sτ)]
    refine gB_gG [] 300 ?_
    (conv => whnf); try simp only [gO, gWe, ne_eq, Nat.reduceEqDiff, not_false_eq_true, true_or, or_true, true_and]
    refine t_201 (by omega) (iAll_W fin l1τ) ?_
    (conv => whnf); try simp only [gO, gWe, ne_eq, Nat.reduceEqDiff, not_false_eq_true, true_or, or_true, true_and]
    repeat' (first | exact True.intro | (refine ⟨fun hb => ?_, fun hb => ?_⟩ <;> first | (exfalso; omega; done) | exact absurd True.intro hb | ((conv => whnf); try simp only [gO, gWe, ne_eq, Nat.reduceEqDiff, not_false_eq_true, true_or, or_true, true_and])) | (refine ⟨by omega, ?_⟩; (conv => whnf); try simp only [gO, gWe, ne_eq, Nat.reduceEqDiff, not_false_eq_true, true_or, or_true, true_and]) | (refine ⟨fun hb => ?_, ?_⟩ <;> first | (exfalso; omega; done) | exact absurd True.intro hb | ((conv => whnf); try simp only [gO, gWe, ne_eq, Nat.reduceEqDiff, not_false_eq_true, true_or, or_true, true_and])) | fail)
    exact h' _ _ τ (by rw [xr2, (sρ.tr sτ) 19 (by decide) (by decide), e19]) fin
  · have l0 : (μ 0 6) = 0 := by have := hA.1.2.2.1; omega
    have ml := hA.2.1.2.1
    obtain ⟨d, rfl⟩ := gD (show 1 ≤ D by omega)
    refine gC 300 [] rfl ?_
    (conv => whnf); try simp only [gO, gWe, ne_eq, Nat.reduceEqDiff, not_false_eq_true, true_or, or_true, true_and]
    repeat' (first | exact True.intro | (refine ⟨fun hb => ?_, fun hb => ?_⟩ <;> first | (exfalso; omega; done) | exact absurd True.intro hb | ((conv => whnf); try simp only [gO, gWe, ne_eq, Nat.reduceEqDiff, not_false_eq_true, true_or, or_true, true_and])) | (refine ⟨by omega, ?_⟩; (conv => whnf); try simp only [gO, gWe, ne_eq, Nat.reduceEqDiff, not_false_eq_true, true_or, or_true, true_and]) | (refine ⟨fun hb => ?_, ?_⟩ <;> first | (exfalso; omega; done) | exact absurd True.intro hb | ((conv => whnf); try simp only [gO, gWe, ne_eq, Nat.reduceEqDiff, not_false_eq_true, true_or, or_true, true_and])) | fail)
    refine h _ μ ?_
    refine gC 300 [] rfl ?_
    (conv => whnf); try simp only [gO, gWe, ne_eq, Nat.reduceEqDiff, not_false_eq_true, true_or, or_true, true_and]
    repeat' (first | exact True.intro | (refine ⟨fun hb => ?_, fun hb => ?_⟩ <;> first | (exfalso; omega; done) | exact absurd True.intro hb | ((conv => whnf); try simp only [gO, gWe, ne_eq, Nat.reduceEqDiff, not_false_eq_true, true_or, or_true, true_and])) | (refine ⟨by omega, ?_⟩; (conv => whnf); try simp only [gO, gWe, ne_eq, Nat.reduceEqDiff, not_false_eq_true, true_or, or_true, true_and]) | (refine ⟨fun hb => ?_, ?_⟩ <;> first | (exfalso; omega; done) | exact absurd True.intro hb | ((conv => whnf); try simp only [gO, gWe, ne_eq, Nat.reduceEqDiff, not_false_eq_true, true_or, or_true, true_and])) | fail)
    exact h' _ _ μ rfl hA
