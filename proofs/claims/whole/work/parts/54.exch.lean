/-! the cases reduce and exchange -/
theorem c_99 {D : Nat} (hD : 30 ≤ D) {μ : MU} (hA : iAll μ) {r : Int} : hCs D 99 196 [gI r] μ := by
  intro Q Q' h h'
  by_cases l1 : (μ 0 6) = 1
  · skip
    have hG := hA.1.1
    have hL := hA.1.2.1
    obtain ⟨hN, hO, hC, hX⟩ := hA.1.2.2.2 l1
    obtain ⟨hS, hq, hx⟩ := hA.2.1.2.2 l1
    have ml := hA.2.1.2.1
    have G := hG.1
    have L := hL.2.2.2.1
    have V := hN.1
    have M := hA.2.1.1.1
    by_cases cr : 1 ≤ r ∧ r ≤ 6
    · have oi := imp_O (s := ((μ 24), (μ 25))) hG hL hN ⟨hO, hC⟩ r.toNat
      obtain ⟨d, rfl⟩ := gD (show 1 ≤ D by omega)
      refine gC 300 [] rfl ?_
      (conv => whnf); try simp only [gO, gWe, ne_eq, Nat.reduceEqDiff, not_false_eq_true, true_or, or_true, true_and]
      repeat' (first | exact True.intro | (refine ⟨fun hb => ?_, fun hb => ?_⟩ <;> first | (exfalso; omega; done) | exact absurd True.intro hb | ((conv => whnf); try simp only [gO, gWe, ne_eq, Nat.reduceEqDiff, not_false_eq_true, true_or, or_true, true_and])) | (refine ⟨by omega, ?_⟩; (conv => whnf); try simp only [gO, gWe, ne_eq, Nat.reduceEqDiff, not_false_eq_true, true_or, or_true, true_and]) | (refine ⟨fun hb => ?_, ?_⟩ <;> first | (exfalso; omega; done) | exact absurd True.intro hb | ((conv => whnf); try simp only [gO, gWe, ne_eq, Nat.reduceEqDiff, not_false_eq_true, true_or, or_true, true_and])) | fail)
      refine t_45 (by omega) (fun ν₁ hν₁ hr => ?_)
      have s1 : hSt μ ν₁ := hν₁.st (by decide)
      (conv => whnf); try simp only [gO, gWe, ne_eq, Nat.reduceEqDiff, not_false_eq_true, true_or, or_true, true_and]
      repeat' (first | exact True.intro | (refine ⟨fun hb => ?_, fun hb => ?_⟩ <;> first | (exfalso; omega; done) | exact absurd True.intro hb | ((conv => whnf); try simp only [gO, gWe, ne_eq, Nat.reduceEqDiff, not_false_eq_true, true_or, or_true, true_and])) | (refine ⟨by omega, ?_⟩; (conv => whnf); try simp only [gO, gWe, ne_eq, Nat.reduceEqDiff, not_false_eq_true, true_or, or_true, true_and]) | (refine ⟨fun hb => ?_, ?_⟩ <;> first | (exfalso; omega; done) | exact absurd True.intro hb | ((conv => whnf); try simp only [gO, gWe, ne_eq, Nat.reduceEqDiff, not_false_eq_true, true_or, or_true, true_and])) | fail)
      have I1 := iH_go (s := ((μ 24), (μ 25))) s1 hG hL hN ⟨hO, hC⟩ (by rw [hν₁ 24 (by decide), hν₁ 25 (by decide)])
      refine t_64 (by omega) I1.1 I1.2 (by omega) (by omega) (fun ν₂ hν₂ hsq hO2 => ?_)
      have ic : imp ν₁ = imp μ := by
        funext s k
        induction k with
        | zero => rfl
        | succ k ih => unfold imp; rw [ih, xCa_c s1, sfA_c s1, swpA_c s1, s1 9 (by decide) (by decide)]
      rw [ic, hν₁ 24 (by decide), hν₁ 25 (by decide), s1 19 (by decide) (by decide)] at hsq
      rw [ic, xCa_c s1, hν₁ 24 (by decide), hν₁ 25 (by decide)]
      have f2 : gFr [24, 25, 26, 27, 28, 29, 30, 31, 32] μ ν₂ := (hν₁.mo (by decide)).tr (hν₂.mo (by decide))
      have hO2μ : iO μ (ν₂ 24) (ν₂ 25) := iO_c (fun c a b => (s1 c a b).symm) hO2
      have sO : iOC μ ((ν₂ 24), (ν₂ 25)) := ⟨hO2μ, fun z z0 z1 => iC_sc hG hL hN z0 z1 (oi.2.2 z z0 z1) hsq⟩
      have veq : xCa μ (ν₂ 25) = xCa μ (imp μ ((μ 24), (μ 25)) r.toNat).2.2 := xCa_e hG hL hN (fun v v0 v1 => iO_plu hG hL hN oi.2.1 hO2μ hsq v0 v1)
      (conv => whnf); try simp only [gO, gWe, ne_eq, Nat.reduceEqDiff, not_false_eq_true, true_or, or_true, true_and]
      repeat' (first | exact True.intro | (refine ⟨fun hb => ?_, fun hb => ?_⟩ <;> first | (exfalso; omega; done) | exact absurd True.intro hb | ((conv => whnf); try simp only [gO, gWe, ne_eq, Nat.reduceEqDiff, not_false_eq_true, true_or, or_true, true_and])) | (refine ⟨by omega, ?_⟩; (conv => whnf); try simp only [gO, gWe, ne_eq, Nat.reduceEqDiff, not_false_eq_true, true_or, or_true, true_and]) | (refine ⟨fun hb => ?_, ?_⟩ <;> first | (exfalso; omega; done) | exact absurd True.intro hb | ((conv => whnf); try simp only [gO, gWe, ne_eq, Nat.reduceEqDiff, not_false_eq_true, true_or, or_true, true_and])) | fail)
      refine c_tail (by omega) hA l1 f2 rfl hO2μ (fun j j0 j1 => by rw [hν₂ 26 (by decide)]; exact hr j j0 j1) (fun ν₃ hν₃ hLc => ?_)
      have f3 : gFr [24, 25, 26, 27, 28, 29, 30, 31, 32, 34, 35] μ ν₃ := (f2.mo (by decide)).tr (hν₃.mo (by decide))
      have s3 : hSt μ ν₃ := f3.st (by decide)
      have e5 : ((ν₃ 24), (ν₃ 25)) = ((ν₂ 24), (ν₂ 25)) := by rw [hν₃ 24 (by decide), hν₃ 25 (by decide)]
      (conv => whnf); try simp only [gO, gWe, ne_eq, Nat.reduceEqDiff, not_false_eq_true, true_or, or_true, true_and]
      repeat' (first | exact True.intro | (refine ⟨fun hb => ?_, fun hb => ?_⟩ <;> first | (exfalso; omega; done) | exact absurd True.intro hb | ((conv => whnf); try simp only [gO, gWe, ne_eq, Nat.reduceEqDiff, not_false_eq_true, true_or, or_true, true_and])) | (refine ⟨by omega, ?_⟩; (conv => whnf); try simp only [gO, gWe, ne_eq, Nat.reduceEqDiff, not_false_eq_true, true_or, or_true, true_and]) | (refine ⟨fun hb => ?_, ?_⟩ <;> first | (exfalso; omega; done) | exact absurd True.intro hb | ((conv => whnf); try simp only [gO, gWe, ne_eq, Nat.reduceEqDiff, not_false_eq_true, true_or, or_true, true_and])) | fail)
      refine h _ ν₃ (t_196 (by omega) hA l1 f3 cr.1 cr.2 (fun d ρ Q'' hd hρ h61 hf h62 hM hDs hor hbf hQ => ?_))
      have sρ : hSt μ ρ := s3.tr (hρ.st (by decide))
      refine m_ends (by omega) hA l1 f3 e5 sO hLc hρ h61 hf h62 ⟨hM, iN_c sρ hN, hDs, iO_c sρ hO2μ, fun k k0 k1 => ?_⟩ hbf (fun τ hτ hKτ _ => hQ _ τ (h' _ _ τ veq hτ))
      rw [sρ 19 (by decide) (by decide)] at k1
      rw [hor k k0 k1, sρ 20 (by decide) (by decide)]
      exact congrArg (μ 20) (hsq k k0 k1).symm
    · obtain ⟨d, rfl⟩ := gD (show 1 ≤ D by omega)
      refine gC 300 [] rfl ?_
      (conv => whnf); try simp only [gO, gWe, ne_eq, Nat.reduceEqDiff, not_false_eq_true, true_or, or_true, true_and]
      repeat' (first | exact True.intro | (refine ⟨fun hb => ?_, fun hb => ?_⟩ <;> first | (exfalso; omega; done) | exact absurd True.intro hb | ((conv => whnf); try simp only [gO, gWe, ne_eq, Nat.reduceEqDiff, not_false_eq_true, true_or, or_true, true_and])) | (refine ⟨by omega, ?_⟩; (conv => whnf); try simp only [gO, gWe, ne_eq, Nat.reduceEqDiff, not_false_eq_true, true_or, or_true, true_and]) | (refine ⟨fun hb => ?_, ?_⟩ <;> first | (exfalso; omega; done) | exact absurd True.intro hb | ((conv => whnf); try simp only [gO, gWe, ne_eq, Nat.reduceEqDiff, not_false_eq_true, true_or, or_true, true_and])) | fail)
      · refine h _ μ ?_
        refine gC 300 [] rfl ?_
        (conv => whnf); try simp only [gO, gWe, ne_eq, Nat.reduceEqDiff, not_false_eq_true, true_or, or_true, true_and]
        repeat' (first | exact True.intro | (refine ⟨fun hb => ?_, fun hb => ?_⟩ <;> first | (exfalso; omega; done) | exact absurd True.intro hb | ((conv => whnf); try simp only [gO, gWe, ne_eq, Nat.reduceEqDiff, not_false_eq_true, true_or, or_true, true_and])) | (refine ⟨by omega, ?_⟩; (conv => whnf); try simp only [gO, gWe, ne_eq, Nat.reduceEqDiff, not_false_eq_true, true_or, or_true, true_and]) | (refine ⟨fun hb => ?_, ?_⟩ <;> first | (exfalso; omega; done) | exact absurd True.intro hb | ((conv => whnf); try simp only [gO, gWe, ne_eq, Nat.reduceEqDiff, not_false_eq_true, true_or, or_true, true_and])) | fail)
        refine t_125 (by omega) (fun c => absurd c cr) (fun c => ?_)
        (conv => whnf); try simp only [gO, gWe, ne_eq, Nat.reduceEqDiff, not_false_eq_true, true_or, or_true, true_and]
        repeat' (first | exact True.intro | (refine ⟨fun hb => ?_, fun hb => ?_⟩ <;> first | (exfalso; omega; done) | exact absurd True.intro hb | ((conv => whnf); try simp only [gO, gWe, ne_eq, Nat.reduceEqDiff, not_false_eq_true, true_or, or_true, true_and])) | (refine ⟨by omega, ?_⟩; (conv => whnf); try simp only [gO, gWe, ne_eq, Nat.reduceEqDiff, not_false_eq_true, true_or, or_true, true_and]) | (refine ⟨fun hb => ?_, ?_⟩ <;> first | (exfalso; omega; done) | exact absurd True.intro hb | ((conv => whnf); try simp only [gO, gWe, ne_eq, Nat.reduceEqDiff, not_false_eq_true, true_or, or_true, true_and])) | fail)
        exact h' _ _ μ rfl hA
      · refine h _ μ ?_
        refine gC 300 [] rfl ?_
        (conv => whnf); try simp only [gO, gWe, ne_eq, Nat.reduceEqDiff, not_false_eq_true, true_or, or_true, true_and]
        repeat' (first | exact True.intro | (refine ⟨fun hb => ?_, fun hb => ?_⟩ <;> first | (exfalso; omega; done) | exact absurd True.intro hb | ((conv => whnf); try simp only [gO, gWe, ne_eq, Nat.reduceEqDiff, not_false_eq_true, true_or, or_true, true_and])) | (refine ⟨by omega, ?_⟩; (conv => whnf); try simp only [gO, gWe, ne_eq, Nat.reduceEqDiff, not_false_eq_true, true_or, or_true, true_and]) | (refine ⟨fun hb => ?_, ?_⟩ <;> first | (exfalso; omega; done) | exact absurd True.intro hb | ((conv => whnf); try simp only [gO, gWe, ne_eq, Nat.reduceEqDiff, not_false_eq_true, true_or, or_true, true_and])) | fail)
        refine t_125 (by omega) (fun c => absurd c cr) (fun c => ?_)
        (conv => whnf); try simp only [gO, gWe, ne_eq, Nat.reduceEqDiff, not_false_eq_true, true_or, or_true, true_and]
        repeat' (first | exact True.intro | (refine ⟨fun hb => ?_, fun hb => ?_⟩ <;> first | (exfalso; omega; done) | exact absurd True.intro hb | ((conv => whnf); try simp only [gO, gWe, ne_eq, Nat.reduceEqDiff, not_false_eq_true, true_or, or_true, true_and])) | (refine ⟨by omega, ?_⟩; (conv => whnf); try simp only [gO, gWe, ne_eq, Nat.reduceEqDiff, not_false_eq_true, true_or, or_true, true_and]) | (refine ⟨fun hb => ?_, ?_⟩ <;> first | (exfalso; omega; done) | exact absurd True.intro hb | ((conv => whnf); try simp only [gO, gWe, ne_eq, Nat.reduceEqDiff, not_false_eq_true, true_or, or_true, true_and])) | fail)
        exact h' _ _ μ rfl hA
  · have l0 : (μ 0 6) = 0 := by have := hA.1.2.2.1; omega
    have ml := hA.2.1.2.1
    obtain ⟨d, rfl⟩ := gD (show 1 ≤ D by omega)
    refine gC 300 [] rfl ?_
    (conv => whnf); try simp only [gO, gWe, ne_eq, Nat.reduceEqDiff, not_false_eq_true, true_or, or_true, true_and]
    repeat' (first | exact True.intro | (refine ⟨fun hb => ?_, fun hb => ?_⟩ <;> first | (exfalso; omega; done) | exact absurd True.intro hb | ((conv => whnf); try simp only [gO, gWe, ne_eq, Nat.reduceEqDiff, not_false_eq_true, true_or, or_true, true_and])) | (refine ⟨by omega, ?_⟩; (conv => whnf); try simp only [gO, gWe, ne_eq, Nat.reduceEqDiff, not_false_eq_true, true_or, or_true, true_and]) | (refine ⟨fun hb => ?_, ?_⟩ <;> first | (exfalso; omega; done) | exact absurd True.intro hb | ((conv => whnf); try simp only [gO, gWe, ne_eq, Nat.reduceEqDiff, not_false_eq_true, true_or, or_true, true_and])) | fail)
    refine h _ μ ?_
    refine gC 300 [] rfl ?_
    (conv => whnf); try simp only [gO, gWe, ne_eq, Nat.reduceEqDiff, not_false_eq_true, true_or, or_true, true_and]
    repeat' (first | exact True.intro | (refine ⟨fun hb => ?_, fun hb => ?_⟩ <;> first | (exfalso; omega; done) | exact absurd True.intro hb | ((conv => whnf); try simp only [gO, gWe, ne_eq, Nat.reduceEqDiff, not_false_eq_true, true_or, or_true, true_and])) | (refine ⟨by omega, ?_⟩; (conv => whnf); try simp only [gO, gWe, ne_eq, Nat.reduceEqDiff, not_false_eq_true, true_or, or_true, true_and]) | (refine ⟨fun hb => ?_, ?_⟩ <;> first | (exfalso; omega; done) | exact absurd True.intro hb | ((conv => whnf); try simp only [gO, gWe, ne_eq, Nat.reduceEqDiff, not_false_eq_true, true_or, or_true, true_and])) | fail)
    exact h' _ _ μ rfl hA
