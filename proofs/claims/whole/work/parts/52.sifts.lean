/-! the cases that sift -/
theorem c_98 {D : Nat} (hD : 30 ≤ D) {μ : MU} (hA : iAll μ) : hCs D 98 195 [] μ := by
  intro Q Q' h h'
  by_cases l1 : (μ 0 6) = 1
  · skip
    have hG := hA.1.1
    have hL := hA.1.2.1
    obtain ⟨hN, hO, hC, hX⟩ := hA.1.2.2.2 l1
    obtain ⟨hS, hq, hx⟩ := hA.2.1.2.2 l1
    have ml := hA.2.1.2.1
    have G := hG.1
    have L := hL.2.2.2.1
    have V := hN.1
    have M := hA.2.1.1.1
    have sO : iOC μ (sfA μ ((μ 24), (μ 25)) (μ 9 1).toNat) := sfA_O (s := ((μ 24), (μ 25))) hG hL hN ⟨hO, hC⟩ _
    obtain ⟨d, rfl⟩ := gD (show 1 ≤ D by omega)
    refine gC 300 [] rfl ?_
    (conv => whnf); try simp only [gO, gWe, ne_eq, Nat.reduceEqDiff, not_false_eq_true, true_or, or_true, true_and]
    repeat' (first | exact True.intro | (refine ⟨fun hb => ?_, fun hb => ?_⟩ <;> first | (exfalso; omega; done) | exact absurd True.intro hb | ((conv => whnf); try simp only [gO, gWe, ne_eq, Nat.reduceEqDiff, not_false_eq_true, true_or, or_true, true_and])) | (refine ⟨by omega, ?_⟩; (conv => whnf); try simp only [gO, gWe, ne_eq, Nat.reduceEqDiff, not_false_eq_true, true_or, or_true, true_and]) | (refine ⟨fun hb => ?_, ?_⟩ <;> first | (exfalso; omega; done) | exact absurd True.intro hb | ((conv => whnf); try simp only [gO, gWe, ne_eq, Nat.reduceEqDiff, not_false_eq_true, true_or, or_true, true_and])) | fail)
    refine t_45 (by omega) (fun ν₁ hν₁ hr => ?_)
    have s1 : hSt μ ν₁ := hν₁.st (by decide)
    (conv => whnf); try simp only [gO, gWe, ne_eq, Nat.reduceEqDiff, not_false_eq_true, true_or, or_true, true_and]
    repeat' (first | exact True.intro | (refine ⟨fun hb => ?_, fun hb => ?_⟩ <;> first | (exfalso; omega; done) | exact absurd True.intro hb | ((conv => whnf); try simp only [gO, gWe, ne_eq, Nat.reduceEqDiff, not_false_eq_true, true_or, or_true, true_and])) | (refine ⟨by omega, ?_⟩; (conv => whnf); try simp only [gO, gWe, ne_eq, Nat.reduceEqDiff, not_false_eq_true, true_or, or_true, true_and]) | (refine ⟨fun hb => ?_, ?_⟩ <;> first | (exfalso; omega; done) | exact absurd True.intro hb | ((conv => whnf); try simp only [gO, gWe, ne_eq, Nat.reduceEqDiff, not_false_eq_true, true_or, or_true, true_and])) | fail)
    refine t_63 (by omega) ⟨iG_c s1 hG, iL_c s1 hL, iN_c s1 hN, by rw [hν₁ 24 (by decide), hν₁ 25 (by decide)]; exact iO_c s1 hO⟩ (fun z z0 z1 => by rw [hν₁ 24 (by decide)]; rw [s1 9 (by decide) (by decide)] at z1; exact iC_c s1 (hC z z0 z1)) (fun ν₂ hν₂ hs2 => ?_)
    rw [sfA_c s1, hν₁ 24 (by decide), hν₁ 25 (by decide), s1 9 (by decide) (by decide)] at hs2
    have f2 : gFr [24, 25, 26, 27, 28, 29, 30, 31, 32] μ ν₂ := (hν₁.mo (by decide)).tr (hν₂.mo (by decide))
    generalize hsf : sfA μ ((μ 24), (μ 25)) (μ 9 1).toNat = s at *
    (conv => whnf); try simp only [gO, gWe, ne_eq, Nat.reduceEqDiff, not_false_eq_true, true_or, or_true, true_and]
    repeat' (first | exact True.intro | (refine ⟨fun hb => ?_, fun hb => ?_⟩ <;> first | (exfalso; omega; done) | exact absurd True.intro hb | ((conv => whnf); try simp only [gO, gWe, ne_eq, Nat.reduceEqDiff, not_false_eq_true, true_or, or_true, true_and])) | (refine ⟨by omega, ?_⟩; (conv => whnf); try simp only [gO, gWe, ne_eq, Nat.reduceEqDiff, not_false_eq_true, true_or, or_true, true_and]) | (refine ⟨fun hb => ?_, ?_⟩ <;> first | (exfalso; omega; done) | exact absurd True.intro hb | ((conv => whnf); try simp only [gO, gWe, ne_eq, Nat.reduceEqDiff, not_false_eq_true, true_or, or_true, true_and])) | fail)
    refine c_tail (by omega) hA l1 f2 hs2 sO.1 (fun j j0 j1 => by rw [hν₂ 26 (by decide)]; exact hr j j0 j1) (fun ν₃ hν₃ hLc => ?_)
    have e3 : (ν₃ 24) = _ := (hν₃ 24 (by decide)).trans (congrArg Prod.fst hs2)
    have e4 : (ν₃ 25) = _ := (hν₃ 25 (by decide)).trans (congrArg Prod.snd hs2)
    have f3 : gFr [24, 25, 26, 27, 28, 29, 30, 31, 32, 34, 35] μ ν₃ := (f2.mo (by decide)).tr (hν₃.mo (by decide))
    have s3 : hSt μ ν₃ := f3.st (by decide)
    (conv => whnf); try simp only [gO, gWe, ne_eq, Nat.reduceEqDiff, not_false_eq_true, true_or, or_true, true_and]
    repeat' (first | exact True.intro | (refine ⟨fun hb => ?_, fun hb => ?_⟩ <;> first | (exfalso; omega; done) | exact absurd True.intro hb | ((conv => whnf); try simp only [gO, gWe, ne_eq, Nat.reduceEqDiff, not_false_eq_true, true_or, or_true, true_and])) | (refine ⟨by omega, ?_⟩; (conv => whnf); try simp only [gO, gWe, ne_eq, Nat.reduceEqDiff, not_false_eq_true, true_or, or_true, true_and]) | (refine ⟨fun hb => ?_, ?_⟩ <;> first | (exfalso; omega; done) | exact absurd True.intro hb | ((conv => whnf); try simp only [gO, gWe, ne_eq, Nat.reduceEqDiff, not_false_eq_true, true_or, or_true, true_and])) | fail)
    refine t_56 (by omega) ⟨iG_c s3 hG, iL_c s3 hL, iN_c s3 hN, by rw [e3, e4]; exact iO_c s3 sO.1⟩ (fun ν₄ hν₄ => ?_)
    rw [xCa_c s3, e4]
    have f4 : gFr [24, 25, 26, 27, 28, 29, 30, 31, 32, 34, 35] μ ν₄ := f3.tr (hν₄.mo (by decide))
    have e5 : ((ν₄ 24), (ν₄ 25)) = s := by rw [hν₄ 24 (by decide), hν₄ 25 (by decide), e3, e4]
    have lc4 : hLC μ ν₄ s.1 := by
      unfold hLC at *
      rw [hν₄ 34 (by decide)]
      exact hLc
    have m4 : (ν₄ 62 2) = 1 := by rw [f4 62 (by decide)]; omega
    (conv => whnf); try simp only [gO, gWe, ne_eq, Nat.reduceEqDiff, not_false_eq_true, true_or, or_true, true_and]
    repeat' (first | exact True.intro | (refine ⟨fun hb => ?_, fun hb => ?_⟩ <;> first | (exfalso; omega; done) | exact absurd True.intro hb | ((conv => whnf); try simp only [gO, gWe, ne_eq, Nat.reduceEqDiff, not_false_eq_true, true_or, or_true, true_and])) | (refine ⟨by omega, ?_⟩; (conv => whnf); try simp only [gO, gWe, ne_eq, Nat.reduceEqDiff, not_false_eq_true, true_or, or_true, true_and]) | (refine ⟨fun hb => ?_, ?_⟩ <;> first | (exfalso; omega; done) | exact absurd True.intro hb | ((conv => whnf); try simp only [gO, gWe, ne_eq, Nat.reduceEqDiff, not_false_eq_true, true_or, or_true, true_and])) | fail)
    refine h _ ν₄ ?_
    refine gC 300 [] rfl ?_
    (conv => whnf); try simp only [gO, gWe, ne_eq, Nat.reduceEqDiff, not_false_eq_true, true_or, or_true, true_and]
    repeat' (first | exact True.intro | (refine ⟨fun hb => ?_, fun hb => ?_⟩ <;> first | (exfalso; omega; done) | exact absurd True.intro hb | ((conv => whnf); try simp only [gO, gWe, ne_eq, Nat.reduceEqDiff, not_false_eq_true, true_or, or_true, true_and])) | (refine ⟨by omega, ?_⟩; (conv => whnf); try simp only [gO, gWe, ne_eq, Nat.reduceEqDiff, not_false_eq_true, true_or, or_true, true_and]) | (refine ⟨fun hb => ?_, ?_⟩ <;> first | (exfalso; omega; done) | exact absurd True.intro hb | ((conv => whnf); try simp only [gO, gWe, ne_eq, Nat.reduceEqDiff, not_false_eq_true, true_or, or_true, true_and])) | fail)
    refine m_begin (by omega) hA l1 f4 (fun ρ hρ h61 hf hK => ?_)
    have sρ : hSt μ ρ := (f4.st (by decide)).tr (hρ.st (by decide))
    (conv => whnf); try simp only [gO, gWe, ne_eq, Nat.reduceEqDiff, not_false_eq_true, true_or, or_true, true_and]
    repeat' (first | exact True.intro | (refine ⟨fun hb => ?_, fun hb => ?_⟩ <;> first | (exfalso; omega; done) | exact absurd True.intro hb | ((conv => whnf); try simp only [gO, gWe, ne_eq, Nat.reduceEqDiff, not_false_eq_true, true_or, or_true, true_and])) | (refine ⟨by omega, ?_⟩; (conv => whnf); try simp only [gO, gWe, ne_eq, Nat.reduceEqDiff, not_false_eq_true, true_or, or_true, true_and]) | (refine ⟨fun hb => ?_, ?_⟩ <;> first | (exfalso; omega; done) | exact absurd True.intro hb | ((conv => whnf); try simp only [gO, gWe, ne_eq, Nat.reduceEqDiff, not_false_eq_true, true_or, or_true, true_and])) | fail)
    refine m_rem (by omega) sρ hK (fun ρ₁ hρ₁ hK1 hbf => ?_)
    have sρ₁ : hSt μ ρ₁ := sρ.tr (hρ₁.st (by decide))
    (conv => whnf); try simp only [gO, gWe, ne_eq, Nat.reduceEqDiff, not_false_eq_true, true_or, or_true, true_and]
    repeat' (first | exact True.intro | (refine ⟨fun hb => ?_, fun hb => ?_⟩ <;> first | (exfalso; omega; done) | exact absurd True.intro hb | ((conv => whnf); try simp only [gO, gWe, ne_eq, Nat.reduceEqDiff, not_false_eq_true, true_or, or_true, true_and])) | (refine ⟨by omega, ?_⟩; (conv => whnf); try simp only [gO, gWe, ne_eq, Nat.reduceEqDiff, not_false_eq_true, true_or, or_true, true_and]) | (refine ⟨fun hb => ?_, ?_⟩ <;> first | (exfalso; omega; done) | exact absurd True.intro hb | ((conv => whnf); try simp only [gO, gWe, ne_eq, Nat.reduceEqDiff, not_false_eq_true, true_or, or_true, true_and])) | fail)
    refine t_194 (by omega) (s := ((μ 24), (μ 25))) hK1 (fun z z0 z1 => by rw [sρ₁ 9 (by decide) (by decide)] at z1; exact iC_c sρ₁ (hC z z0 z1)) (fun ρ₂ hρ₂ hso hK2 => ?_)
    rw [sfA_c sρ₁, sρ₁ 9 (by decide) (by decide), hsf] at hK2
    (conv => whnf); try simp only [gO, gWe, ne_eq, Nat.reduceEqDiff, not_false_eq_true, true_or, or_true, true_and]
    repeat' (first | exact True.intro | (refine ⟨fun hb => ?_, fun hb => ?_⟩ <;> first | (exfalso; omega; done) | exact absurd True.intro hb | ((conv => whnf); try simp only [gO, gWe, ne_eq, Nat.reduceEqDiff, not_false_eq_true, true_or, or_true, true_and])) | (refine ⟨by omega, ?_⟩; (conv => whnf); try simp only [gO, gWe, ne_eq, Nat.reduceEqDiff, not_false_eq_true, true_or, or_true, true_and]) | (refine ⟨fun hb => ?_, ?_⟩ <;> first | (exfalso; omega; done) | exact absurd True.intro hb | ((conv => whnf); try simp only [gO, gWe, ne_eq, Nat.reduceEqDiff, not_false_eq_true, true_or, or_true, true_and])) | fail)
    refine m_ends (by omega) hA l1 f4 e5 sO lc4 ((hρ.mo (by decide)).tr ((hρ₁.mo (by decide)).tr (hρ₂.mo (by decide)))) (fun j hj => ?_) ?_ (fun k hk => ?_) hK2 (fun k k0 k1 => ?_) (fun τ hτ hKτ _ => ?_)
    · rw [hρ₂ 61 (by decide), hρ₁ 61 (by decide)]; exact h61 j hj
    · rw [hρ₂ 61 (by decide), hρ₁ 61 (by decide)]; exact hf
    · rw [hso k hk, hρ₁ 62 (by decide), hρ 62 (by decide), f4 62 (by decide)]
    · rw [hρ₂ 74 (by decide)]; exact hbf k k0 k1
    · (conv => whnf); try simp only [gO, gWe, ne_eq, Nat.reduceEqDiff, not_false_eq_true, true_or, or_true, true_and]
      repeat' (first | exact True.intro | (refine ⟨fun hb => ?_, fun hb => ?_⟩ <;> first | (exfalso; omega; done) | exact absurd True.intro hb | ((conv => whnf); try simp only [gO, gWe, ne_eq, Nat.reduceEqDiff, not_false_eq_true, true_or, or_true, true_and])) | (refine ⟨by omega, ?_⟩; (conv => whnf); try simp only [gO, gWe, ne_eq, Nat.reduceEqDiff, not_false_eq_true, true_or, or_true, true_and]) | (refine ⟨fun hb => ?_, ?_⟩ <;> first | (exfalso; omega; done) | exact absurd True.intro hb | ((conv => whnf); try simp only [gO, gWe, ne_eq, Nat.reduceEqDiff, not_false_eq_true, true_or, or_true, true_and])) | fail)
      exact h' _ _ τ rfl hτ
  · have l0 : (μ 0 6) = 0 := by have := hA.1.2.2.1; omega
    have ml := hA.2.1.2.1
    obtain ⟨d, rfl⟩ := gD (show 1 ≤ D by omega)
    refine gC 300 [] rfl ?_
    (conv => whnf); try simp only [gO, gWe, ne_eq, Nat.reduceEqDiff, not_false_eq_true, true_or, or_true, true_and]
    repeat' (first | exact True.intro | (refine ⟨fun hb => ?_, fun hb => ?_⟩ <;> first | (exfalso; omega; done) | exact absurd True.intro hb | ((conv => whnf); try simp only [gO, gWe, ne_eq, Nat.reduceEqDiff, not_false_eq_true, true_or, or_true, true_and])) | (refine ⟨by omega, ?_⟩; (conv => whnf); try simp only [gO, gWe, ne_eq, Nat.reduceEqDiff, not_false_eq_true, true_or, or_true, true_and]) | (refine ⟨fun hb => ?_, ?_⟩ <;> first | (exfalso; omega; done) | exact absurd True.intro hb | ((conv => whnf); try simp only [gO, gWe, ne_eq, Nat.reduceEqDiff, not_false_eq_true, true_or, or_true, true_and])) | fail)
    refine h _ μ ?_
    refine gC 300 [] rfl ?_
    (conv => whnf); try simp only [gO, gWe, ne_eq, Nat.reduceEqDiff, not_false_eq_true, true_or, or_true, true_and]
    repeat' (first | exact True.intro | (refine ⟨fun hb => ?_, fun hb => ?_⟩ <;> first | (exfalso; omega; done) | exact absurd True.intro hb | ((conv => whnf); try simp only [gO, gWe, ne_eq, Nat.reduceEqDiff, not_false_eq_true, true_or, or_true, true_and])) | (refine ⟨by omega, ?_⟩; (conv => whnf); try simp only [gO, gWe, ne_eq, Nat.reduceEqDiff, not_false_eq_true, true_or, or_true, true_and]) | (refine ⟨fun hb => ?_, ?_⟩ <;> first | (exfalso; omega; done) | exact absurd True.intro hb | ((conv => whnf); try simp only [gO, gWe, ne_eq, Nat.reduceEqDiff, not_false_eq_true, true_or, or_true, true_and])) | fail)
    exact h' _ _ μ rfl hA
theorem c_97 {D : Nat} (hD : 30 ≤ D) {μ : MU} (hA : iAll μ) {a : Int} (ha : gOk a) : hCs D 97 192 [gI a] μ := by
  intro Q Q' h h'
  by_cases l1 : (μ 0 6) = 1
  · skip
    have hG := hA.1.1
    have hL := hA.1.2.1
    obtain ⟨hN, hO, hC, hX⟩ := hA.1.2.2.2 l1
    obtain ⟨hS, hq, hx⟩ := hA.2.1.2.2 l1
    have ml := hA.2.1.2.1
    have G := hG.1
    have L := hL.2.2.2.1
    have V := hN.1
    have M := hA.2.1.1.1
    obtain ⟨d, rfl⟩ := gD (show 1 ≤ D by omega)
    refine gC 300 [] rfl ?_
    (conv => whnf); try simp only [gO, gWe, ne_eq, Nat.reduceEqDiff, not_false_eq_true, true_or, or_true, true_and]
    repeat' (first | exact True.intro | (refine ⟨fun hb => ?_, fun hb => ?_⟩ <;> first | (exfalso; omega; done) | exact absurd True.intro hb | ((conv => whnf); try simp only [gO, gWe, ne_eq, Nat.reduceEqDiff, not_false_eq_true, true_or, or_true, true_and])) | (refine ⟨by omega, ?_⟩; (conv => whnf); try simp only [gO, gWe, ne_eq, Nat.reduceEqDiff, not_false_eq_true, true_or, or_true, true_and]) | (refine ⟨fun hb => ?_, ?_⟩ <;> first | (exfalso; omega; done) | exact absurd True.intro hb | ((conv => whnf); try simp only [gO, gWe, ne_eq, Nat.reduceEqDiff, not_false_eq_true, true_or, or_true, true_and])) | fail)
    refine t_38 (by omega) ha hG hL hN (fun v v0 v1 hv => ?_) (fun hv => ?_)
    · have sO : iOC μ (sft μ ((μ 24), (μ 25)) v) := sft_O (s := ((μ 24), (μ 25))) hG hL hN ⟨hO, hC⟩ v0 v1
      (conv => whnf); try simp only [gO, gWe, ne_eq, Nat.reduceEqDiff, not_false_eq_true, true_or, or_true, true_and]
      repeat' (first | exact True.intro | (refine ⟨fun hb => ?_, fun hb => ?_⟩ <;> first | (exfalso; omega; done) | exact absurd True.intro hb | ((conv => whnf); try simp only [gO, gWe, ne_eq, Nat.reduceEqDiff, not_false_eq_true, true_or, or_true, true_and])) | (refine ⟨by omega, ?_⟩; (conv => whnf); try simp only [gO, gWe, ne_eq, Nat.reduceEqDiff, not_false_eq_true, true_or, or_true, true_and]) | (refine ⟨fun hb => ?_, ?_⟩ <;> first | (exfalso; omega; done) | exact absurd True.intro hb | ((conv => whnf); try simp only [gO, gWe, ne_eq, Nat.reduceEqDiff, not_false_eq_true, true_or, or_true, true_and])) | fail)
      refine t_45 (by omega) (fun ν₁ hν₁ hr => ?_)
      have s1 : hSt μ ν₁ := hν₁.st (by decide)
      (conv => whnf); try simp only [gO, gWe, ne_eq, Nat.reduceEqDiff, not_false_eq_true, true_or, or_true, true_and]
      repeat' (first | exact True.intro | (refine ⟨fun hb => ?_, fun hb => ?_⟩ <;> first | (exfalso; omega; done) | exact absurd True.intro hb | ((conv => whnf); try simp only [gO, gWe, ne_eq, Nat.reduceEqDiff, not_false_eq_true, true_or, or_true, true_and])) | (refine ⟨by omega, ?_⟩; (conv => whnf); try simp only [gO, gWe, ne_eq, Nat.reduceEqDiff, not_false_eq_true, true_or, or_true, true_and]) | (refine ⟨fun hb => ?_, ?_⟩ <;> first | (exfalso; omega; done) | exact absurd True.intro hb | ((conv => whnf); try simp only [gO, gWe, ne_eq, Nat.reduceEqDiff, not_false_eq_true, true_or, or_true, true_and])) | fail)
      refine t_62 (by omega) ⟨iG_c s1 hG, iL_c s1 hL, iN_c s1 hN, by rw [hν₁ 24 (by decide), hν₁ 25 (by decide)]; exact iO_c s1 hO⟩ (fun z z0 z1 => by rw [hν₁ 24 (by decide)]; rw [s1 9 (by decide) (by decide)] at z1; exact iC_c s1 (hC z z0 z1)) v0 (by rw [s1 19 (by decide) (by decide)]; exact v1) (fun ν₂ hν₂ _ hs2 => ?_)
      rw [sft_c s1, hν₁ 24 (by decide), hν₁ 25 (by decide)] at hs2
      have f2 : gFr [24, 25, 26, 27, 28, 29, 30, 31, 32] μ ν₂ := (hν₁.mo (by decide)).tr (hν₂.mo (by decide))
      generalize hsf : sft μ ((μ 24), (μ 25)) v = s at *
      (conv => whnf); try simp only [gO, gWe, ne_eq, Nat.reduceEqDiff, not_false_eq_true, true_or, or_true, true_and]
      repeat' (first | exact True.intro | (refine ⟨fun hb => ?_, fun hb => ?_⟩ <;> first | (exfalso; omega; done) | exact absurd True.intro hb | ((conv => whnf); try simp only [gO, gWe, ne_eq, Nat.reduceEqDiff, not_false_eq_true, true_or, or_true, true_and])) | (refine ⟨by omega, ?_⟩; (conv => whnf); try simp only [gO, gWe, ne_eq, Nat.reduceEqDiff, not_false_eq_true, true_or, or_true, true_and]) | (refine ⟨fun hb => ?_, ?_⟩ <;> first | (exfalso; omega; done) | exact absurd True.intro hb | ((conv => whnf); try simp only [gO, gWe, ne_eq, Nat.reduceEqDiff, not_false_eq_true, true_or, or_true, true_and])) | fail)
      refine c_tail (by omega) hA l1 f2 hs2 sO.1 (fun j j0 j1 => by rw [hν₂ 26 (by decide)]; exact hr j j0 j1) (fun ν₃ hν₃ hLc => ?_)
      have e3 : (ν₃ 24) = _ := (hν₃ 24 (by decide)).trans (congrArg Prod.fst hs2)
      have e4 : (ν₃ 25) = _ := (hν₃ 25 (by decide)).trans (congrArg Prod.snd hs2)
      have f3 : gFr [24, 25, 26, 27, 28, 29, 30, 31, 32, 34, 35] μ ν₃ := (f2.mo (by decide)).tr (hν₃.mo (by decide))
      have s3 : hSt μ ν₃ := f3.st (by decide)
      have e5 : ((ν₃ 24), (ν₃ 25)) = s := by rw [e3, e4]
      have m4 : (ν₃ 62 2) = 1 := by rw [f3 62 (by decide)]; omega
      have e62 : ν₃ 62 = μ 62 := f3 62 (by decide)
      have p0 := (iO_v hG hL hN hO v0 v1)
      have q3 : (ν₃ 25) v = s.2 v := by rw [e4]
      (conv => whnf); try simp only [gO, gWe, ne_eq, Nat.reduceEqDiff, not_false_eq_true, true_or, or_true, true_and]
      repeat' (first | exact True.intro | (refine ⟨fun hb => ?_, fun hb => ?_⟩ <;> first | (exfalso; omega; done) | exact absurd True.intro hb | ((conv => whnf); try simp only [gO, gWe, ne_eq, Nat.reduceEqDiff, not_false_eq_true, true_or, or_true, true_and])) | (refine ⟨by omega, ?_⟩; (conv => whnf); try simp only [gO, gWe, ne_eq, Nat.reduceEqDiff, not_false_eq_true, true_or, or_true, true_and]) | (refine ⟨fun hb => ?_, ?_⟩ <;> first | (exfalso; omega; done) | exact absurd True.intro hb | ((conv => whnf); try simp only [gO, gWe, ne_eq, Nat.reduceEqDiff, not_false_eq_true, true_or, or_true, true_and])) | fail)
      rw [q3]
      refine h _ ν₃ ?_
      refine gC 300 [] rfl ?_
      (conv => whnf); try simp only [gO, gWe, ne_eq, Nat.reduceEqDiff, not_false_eq_true, true_or, or_true, true_and]
      repeat' (first | exact True.intro | (refine ⟨fun hb => ?_, fun hb => ?_⟩ <;> first | (exfalso; omega; done) | exact absurd True.intro hb | ((conv => whnf); try simp only [gO, gWe, ne_eq, Nat.reduceEqDiff, not_false_eq_true, true_or, or_true, true_and])) | (refine ⟨by omega, ?_⟩; (conv => whnf); try simp only [gO, gWe, ne_eq, Nat.reduceEqDiff, not_false_eq_true, true_or, or_true, true_and]) | (refine ⟨fun hb => ?_, ?_⟩ <;> first | (exfalso; omega; done) | exact absurd True.intro hb | ((conv => whnf); try simp only [gO, gWe, ne_eq, Nat.reduceEqDiff, not_false_eq_true, true_or, or_true, true_and])) | fail)
      refine t_162n (by omega) (sq := (μ 24)) (pl := (μ 25)) (iG_c s3 hG) (iL_c s3 hL) (iN_c s3 hN) ?_ (iO_c s3 hO) ?_ (fun w w0 w1 hw => ?_) (fun hw => absurd (by rw [s3 20 (by decide) (by decide)]; exact hv) (hw v v0 (by rw [s3 19 (by decide) (by decide)]; exact v1)))
      · unfold iDs at *
        simp only [s3 1 (by decide) (by decide), s3 2 (by decide) (by decide), s3 3 (by decide) (by decide), s3 4 (by decide) (by decide), s3 5 (by decide) (by decide), s3 6 (by decide) (by decide), s3 7 (by decide) (by decide), s3 8 (by decide) (by decide), s3 9 (by decide) (by decide), s3 10 (by decide) (by decide), s3 11 (by decide) (by decide), s3 12 (by decide) (by decide), s3 13 (by decide) (by decide), s3 14 (by decide) (by decide), s3 15 (by decide) (by decide), s3 16 (by decide) (by decide), s3 17 (by decide) (by decide), s3 18 (by decide) (by decide), s3 19 (by decide) (by decide), s3 20 (by decide) (by decide), s3 21 (by decide) (by decide), s3 22 (by decide) (by decide), s3 23 (by decide) (by decide), e62]
        exact hS
      · simp only [s3 1 (by decide) (by decide), s3 2 (by decide) (by decide), s3 3 (by decide) (by decide), s3 4 (by decide) (by decide), s3 5 (by decide) (by decide), s3 6 (by decide) (by decide), s3 7 (by decide) (by decide), s3 8 (by decide) (by decide), s3 9 (by decide) (by decide), s3 10 (by decide) (by decide), s3 11 (by decide) (by decide), s3 12 (by decide) (by decide), s3 13 (by decide) (by decide), s3 14 (by decide) (by decide), s3 15 (by decide) (by decide), s3 16 (by decide) (by decide), s3 17 (by decide) (by decide), s3 18 (by decide) (by decide), s3 19 (by decide) (by decide), s3 20 (by decide) (by decide), s3 21 (by decide) (by decide), s3 22 (by decide) (by decide), s3 23 (by decide) (by decide), e62]
        exact hq
      · rw [s3 19 (by decide) (by decide)] at w1
        rw [s3 20 (by decide) (by decide)] at hw
        have ew := iN_inj hG hL hN w0 w1 v0 v1 (hw.trans hv.symm)
        rw [ew, s3 23 (by decide) (by decide), s3 21 (by decide) (by decide)]
        have p1 := p0.2.1
        have p2 := p0.2.2.1
        (conv => whnf); try simp only [gO, gWe, ne_eq, Nat.reduceEqDiff, not_false_eq_true, true_or, or_true, true_and]
        repeat' (first | exact True.intro | (refine ⟨fun hb => ?_, fun hb => ?_⟩ <;> first | (exfalso; omega; done) | exact absurd True.intro hb | ((conv => whnf); try simp only [gO, gWe, ne_eq, Nat.reduceEqDiff, not_false_eq_true, true_or, or_true, true_and])) | (refine ⟨by omega, ?_⟩; (conv => whnf); try simp only [gO, gWe, ne_eq, Nat.reduceEqDiff, not_false_eq_true, true_or, or_true, true_and]) | (refine ⟨fun hb => ?_, ?_⟩ <;> first | (exfalso; omega; done) | exact absurd True.intro hb | ((conv => whnf); try simp only [gO, gWe, ne_eq, Nat.reduceEqDiff, not_false_eq_true, true_or, or_true, true_and])) | fail)
        refine m_begin (by omega) hA l1 f3 (fun ρ hρ h61 hf hK => ?_)
        have sρ : hSt μ ρ := (f3.st (by decide)).tr (hρ.st (by decide))
        (conv => whnf); try simp only [gO, gWe, ne_eq, Nat.reduceEqDiff, not_false_eq_true, true_or, or_true, true_and]
        repeat' (first | exact True.intro | (refine ⟨fun hb => ?_, fun hb => ?_⟩ <;> first | (exfalso; omega; done) | exact absurd True.intro hb | ((conv => whnf); try simp only [gO, gWe, ne_eq, Nat.reduceEqDiff, not_false_eq_true, true_or, or_true, true_and])) | (refine ⟨by omega, ?_⟩; (conv => whnf); try simp only [gO, gWe, ne_eq, Nat.reduceEqDiff, not_false_eq_true, true_or, or_true, true_and]) | (refine ⟨fun hb => ?_, ?_⟩ <;> first | (exfalso; omega; done) | exact absurd True.intro hb | ((conv => whnf); try simp only [gO, gWe, ne_eq, Nat.reduceEqDiff, not_false_eq_true, true_or, or_true, true_and])) | fail)
        refine m_rem (by omega) sρ hK (fun ρ₁ hρ₁ hK1 hbf => ?_)
        have sρ₁ : hSt μ ρ₁ := sρ.tr (hρ₁.st (by decide))
        have nv : a = (ρ₁ 20) v := by rw [sρ₁ 20 (by decide) (by decide)]; exact hv.symm
        (conv => whnf); try simp only [gO, gWe, ne_eq, Nat.reduceEqDiff, not_false_eq_true, true_or, or_true, true_and]
        repeat' (first | exact True.intro | (refine ⟨fun hb => ?_, fun hb => ?_⟩ <;> first | (exfalso; omega; done) | exact absurd True.intro hb | ((conv => whnf); try simp only [gO, gWe, ne_eq, Nat.reduceEqDiff, not_false_eq_true, true_or, or_true, true_and])) | (refine ⟨by omega, ?_⟩; (conv => whnf); try simp only [gO, gWe, ne_eq, Nat.reduceEqDiff, not_false_eq_true, true_or, or_true, true_and]) | (refine ⟨fun hb => ?_, ?_⟩ <;> first | (exfalso; omega; done) | exact absurd True.intro hb | ((conv => whnf); try simp only [gO, gWe, ne_eq, Nat.reduceEqDiff, not_false_eq_true, true_or, or_true, true_and])) | fail)
        rw [nv]
        refine t_191 (by omega) (s := ((μ 24), (μ 25))) hK1 (fun z z0 z1 => by rw [sρ₁ 9 (by decide) (by decide)] at z1; exact iC_c sρ₁ (hC z z0 z1)) v0 (by rw [sρ₁ 19 (by decide) (by decide)]; exact v1) (fun ρ₂ hρ₂ hso hK2 => ?_)
        rw [sft_c sρ₁, hsf] at hK2
        (conv => whnf); try simp only [gO, gWe, ne_eq, Nat.reduceEqDiff, not_false_eq_true, true_or, or_true, true_and]
        repeat' (first | exact True.intro | (refine ⟨fun hb => ?_, fun hb => ?_⟩ <;> first | (exfalso; omega; done) | exact absurd True.intro hb | ((conv => whnf); try simp only [gO, gWe, ne_eq, Nat.reduceEqDiff, not_false_eq_true, true_or, or_true, true_and])) | (refine ⟨by omega, ?_⟩; (conv => whnf); try simp only [gO, gWe, ne_eq, Nat.reduceEqDiff, not_false_eq_true, true_or, or_true, true_and]) | (refine ⟨fun hb => ?_, ?_⟩ <;> first | (exfalso; omega; done) | exact absurd True.intro hb | ((conv => whnf); try simp only [gO, gWe, ne_eq, Nat.reduceEqDiff, not_false_eq_true, true_or, or_true, true_and])) | fail)
        refine m_ends (by omega) hA l1 f3 e5 sO hLc ((hρ.mo (by decide)).tr ((hρ₁.mo (by decide)).tr (hρ₂.mo (by decide)))) (fun j hj => ?_) ?_ (fun k hk => ?_) hK2 (fun k k0 k1 => ?_) (fun τ hτ hKτ sτ => ?_)
        · rw [hρ₂ 61 (by decide), hρ₁ 61 (by decide)]; exact h61 j hj
        · rw [hρ₂ 61 (by decide), hρ₁ 61 (by decide)]; exact hf
        · rw [hso k hk, hρ₁ 62 (by decide), hρ 62 (by decide), f3 62 (by decide)]
        · rw [hρ₂ 74 (by decide)]; exact hbf k k0 k1
        · have nn : (ρ₁ 20) = (τ 20) := by rw [sρ₁ 20 (by decide) (by decide), sτ 20 (by decide) (by decide)]
          rw [nn]
          (conv => whnf); try simp only [gO, gWe, ne_eq, Nat.reduceEqDiff, not_false_eq_true, true_or, or_true, true_and]
          repeat' (first | exact True.intro | (refine ⟨fun hb => ?_, fun hb => ?_⟩ <;> first | (exfalso; omega; done) | exact absurd True.intro hb | ((conv => whnf); try simp only [gO, gWe, ne_eq, Nat.reduceEqDiff, not_false_eq_true, true_or, or_true, true_and])) | (refine ⟨by omega, ?_⟩; (conv => whnf); try simp only [gO, gWe, ne_eq, Nat.reduceEqDiff, not_false_eq_true, true_or, or_true, true_and]) | (refine ⟨fun hb => ?_, ?_⟩ <;> first | (exfalso; omega; done) | exact absurd True.intro hb | ((conv => whnf); try simp only [gO, gWe, ne_eq, Nat.reduceEqDiff, not_false_eq_true, true_or, or_true, true_and])) | fail)
          refine t_163 (by omega) hKτ v0 (by rw [sτ 19 (by decide) (by decide)]; exact v1) ?_
          (conv => whnf); try simp only [gO, gWe, ne_eq, Nat.reduceEqDiff, not_false_eq_true, true_or, or_true, true_and]
          repeat' (first | exact True.intro | (refine ⟨fun hb => ?_, fun hb => ?_⟩ <;> first | (exfalso; omega; done) | exact absurd True.intro hb | ((conv => whnf); try simp only [gO, gWe, ne_eq, Nat.reduceEqDiff, not_false_eq_true, true_or, or_true, true_and])) | (refine ⟨by omega, ?_⟩; (conv => whnf); try simp only [gO, gWe, ne_eq, Nat.reduceEqDiff, not_false_eq_true, true_or, or_true, true_and]) | (refine ⟨fun hb => ?_, ?_⟩ <;> first | (exfalso; omega; done) | exact absurd True.intro hb | ((conv => whnf); try simp only [gO, gWe, ne_eq, Nat.reduceEqDiff, not_false_eq_true, true_or, or_true, true_and])) | fail)
          exact h' _ _ τ rfl hτ
    · (conv => whnf); try simp only [gO, gWe, ne_eq, Nat.reduceEqDiff, not_false_eq_true, true_or, or_true, true_and]
      repeat' (first | exact True.intro | (refine ⟨fun hb => ?_, fun hb => ?_⟩ <;> first | (exfalso; omega; done) | exact absurd True.intro hb | ((conv => whnf); try simp only [gO, gWe, ne_eq, Nat.reduceEqDiff, not_false_eq_true, true_or, or_true, true_and])) | (refine ⟨by omega, ?_⟩; (conv => whnf); try simp only [gO, gWe, ne_eq, Nat.reduceEqDiff, not_false_eq_true, true_or, or_true, true_and]) | (refine ⟨fun hb => ?_, ?_⟩ <;> first | (exfalso; omega; done) | exact absurd True.intro hb | ((conv => whnf); try simp only [gO, gWe, ne_eq, Nat.reduceEqDiff, not_false_eq_true, true_or, or_true, true_and])) | fail)
      refine h _ μ ?_
      refine gC 300 [] rfl ?_
      (conv => whnf); try simp only [gO, gWe, ne_eq, Nat.reduceEqDiff, not_false_eq_true, true_or, or_true, true_and]
      repeat' (first | exact True.intro | (refine ⟨fun hb => ?_, fun hb => ?_⟩ <;> first | (exfalso; omega; done) | exact absurd True.intro hb | ((conv => whnf); try simp only [gO, gWe, ne_eq, Nat.reduceEqDiff, not_false_eq_true, true_or, or_true, true_and])) | (refine ⟨by omega, ?_⟩; (conv => whnf); try simp only [gO, gWe, ne_eq, Nat.reduceEqDiff, not_false_eq_true, true_or, or_true, true_and]) | (refine ⟨fun hb => ?_, ?_⟩ <;> first | (exfalso; omega; done) | exact absurd True.intro hb | ((conv => whnf); try simp only [gO, gWe, ne_eq, Nat.reduceEqDiff, not_false_eq_true, true_or, or_true, true_and])) | fail)
      refine t_162n (by omega) hG hL hN hS hO hq (fun w w0 w1 hw => absurd hw (hv w w0 w1)) (fun _ => ?_)
      (conv => whnf); try simp only [gO, gWe, ne_eq, Nat.reduceEqDiff, not_false_eq_true, true_or, or_true, true_and]
      repeat' (first | exact True.intro | (refine ⟨fun hb => ?_, fun hb => ?_⟩ <;> first | (exfalso; omega; done) | exact absurd True.intro hb | ((conv => whnf); try simp only [gO, gWe, ne_eq, Nat.reduceEqDiff, not_false_eq_true, true_or, or_true, true_and])) | (refine ⟨by omega, ?_⟩; (conv => whnf); try simp only [gO, gWe, ne_eq, Nat.reduceEqDiff, not_false_eq_true, true_or, or_true, true_and]) | (refine ⟨fun hb => ?_, ?_⟩ <;> first | (exfalso; omega; done) | exact absurd True.intro hb | ((conv => whnf); try simp only [gO, gWe, ne_eq, Nat.reduceEqDiff, not_false_eq_true, true_or, or_true, true_and])) | fail)
      exact h' _ _ μ rfl hA
  · have l0 : (μ 0 6) = 0 := by have := hA.1.2.2.1; omega
    have ml := hA.2.1.2.1
    obtain ⟨d, rfl⟩ := gD (show 1 ≤ D by omega)
    refine gC 300 [] rfl ?_
    (conv => whnf); try simp only [gO, gWe, ne_eq, Nat.reduceEqDiff, not_false_eq_true, true_or, or_true, true_and]
    repeat' (first | exact True.intro | (refine ⟨fun hb => ?_, fun hb => ?_⟩ <;> first | (exfalso; omega; done) | exact absurd True.intro hb | ((conv => whnf); try simp only [gO, gWe, ne_eq, Nat.reduceEqDiff, not_false_eq_true, true_or, or_true, true_and])) | (refine ⟨by omega, ?_⟩; (conv => whnf); try simp only [gO, gWe, ne_eq, Nat.reduceEqDiff, not_false_eq_true, true_or, or_true, true_and]) | (refine ⟨fun hb => ?_, ?_⟩ <;> first | (exfalso; omega; done) | exact absurd True.intro hb | ((conv => whnf); try simp only [gO, gWe, ne_eq, Nat.reduceEqDiff, not_false_eq_true, true_or, or_true, true_and])) | fail)
    refine h _ μ ?_
    refine gC 300 [] rfl ?_
    (conv => whnf); try simp only [gO, gWe, ne_eq, Nat.reduceEqDiff, not_false_eq_true, true_or, or_true, true_and]
    repeat' (first | exact True.intro | (refine ⟨fun hb => ?_, fun hb => ?_⟩ <;> first | (exfalso; omega; done) | exact absurd True.intro hb | ((conv => whnf); try simp only [gO, gWe, ne_eq, Nat.reduceEqDiff, not_false_eq_true, true_or, or_true, true_and])) | (refine ⟨by omega, ?_⟩; (conv => whnf); try simp only [gO, gWe, ne_eq, Nat.reduceEqDiff, not_false_eq_true, true_or, or_true, true_and]) | (refine ⟨fun hb => ?_, ?_⟩ <;> first | (exfalso; omega; done) | exact absurd True.intro hb | ((conv => whnf); try simp only [gO, gWe, ne_eq, Nat.reduceEqDiff, not_false_eq_true, true_or, or_true, true_and])) | fail)
    exact h' _ _ μ rfl hA
