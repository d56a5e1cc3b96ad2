/-! the cases that change the order -/
def hLC (μ ν : MU) (sq : Int → Int) : Prop := (hSame μ sq ∧ (ν 34) = (μ 34)) ∨ (¬ hSame μ sq ∧ hPk μ sq (fun k => (ν 34) (sq k)))
theorem c_tail {D : Nat} (hD : 3 ≤ D) {μ ν₁ : MU} {Q : GQ} {s : GO} (hA : iAll μ) (l1 : (μ 0 6) = 1) (hν₁ : gFr [24, 25, 26, 27, 28, 29, 30, 31, 32] μ ν₁) (hs : ((ν₁ 24), (ν₁ 25)) = s) (hO : iO μ s.1 s.2) (hr : ∀ j : Int, 0 ≤ j → j < 60 → (ν₁ 26) j = (μ 24) j) (h : ∀ ν : MU, gFr [34] ν₁ ν → hLC μ ν s.1 → Q none g_SH ν) : gCall g_T g_F D 117 [gR 0] g_SH ν₁ Q := by
  have st : hSt μ ν₁ := hν₁.st (by decide)
  have dN := (hA.1.2.2.2 l1).1
  have V := dN.1
  have e1 : (ν₁ 24) = s.1 := congrArg Prod.fst hs
  have e2 : (ν₁ 25) = s.2 := congrArg Prod.snd hs
  have e19 : (ν₁ 19 2) = (μ 19 2) := by rw [st 19 (by decide) (by decide)]
  have cond : (∀ k : Int, 0 ≤ k → k < (ν₁ 19 2) → (ν₁ 24) k = (ν₁ 26) k) ↔ hSame μ s.1 := by
    rw [e19, e1]
    refine ⟨fun hh k k0 k1 => (hh k k0 k1).trans (hr k k0 (by omega)), fun hh k k0 k1 => (hh k k0 k1).trans (hr k k0 (by omega)).symm⟩
  refine t_117 hD ⟨iG_c st hA.1.1, iL_c st hA.1.2.1, iN_c st dN, by rw [e1, e2]; exact iO_c st hO⟩ (fun c => ?_) (fun c ν hν hl => ?_)
  · exact h ν₁ gFr.rf (Or.inl ⟨cond.mp c, hν₁ 34 (by decide)⟩)
  · refine h ν hν (Or.inr ⟨fun hh => c (cond.mpr hh), fun y k y0 y1 k0 k1 => ?_⟩)
    have z := hl y k y0 (by rw [st 9 (by decide) (by decide)]; exact y1) (by rw [st 23 (by decide) (by decide)]; exact k0) (by rw [st 23 (by decide) (by decide)]; exact k1)
    rw [pkX_c st, e1] at z
    exact z
theorem m_ends {D : Nat} (hD : 8 ≤ D) {μ ν ρ : MU} {Q : GQ} {s : GO} (hA : iAll μ) (l1 : (μ 0 6) = 1) (hν : gFr [24, 25, 26, 27, 28, 29, 30, 31, 32, 34, 35] μ ν) (hs : ((ν 24), (ν 25)) = s) (hOC : iOC μ s) (hL1 : hLC μ ν s.1) (hρ : gFr [61, 62, 66, 67, 68, 69, 70, 71, 72, 73, 74, 75, 76, 77, 78, 79, 80] ν ρ) (h61 : ∀ j : Int, j ≠ 5 → ρ 61 j = μ 61 j) (hf : (ρ 61 5) = 1) (h62 : ∀ k : Int, (k < 169 ∨ 229 ≤ k) → ρ 62 k = μ 62 k) (hK : iK ρ s.1 s.2) (hbf : ∀ k : Int, 0 ≤ k → k < (μ 19 2) → (ρ 74) k = (μ 20) ((μ 24) k)) (h : ∀ τ : MU, iAll τ → iK τ s.1 s.2 → hSt μ τ → Q (some (gI (xCa μ s.2))) g_SH τ) : gCall g_T g_F D 185 [gR 61] g_SH ρ Q := by
  have st : hSt μ ρ := (hν.st (by decide)).tr (hρ.st (by decide))
  obtain ⟨dN, dO, dC, dX⟩ := hA.1.2.2.2 l1
  obtain ⟨mS, mq, mx⟩ := hA.2.1.2.2 l1
  have ml := hA.2.1.2.1
  have e1 : (ν 24) = s.1 := congrArg Prod.fst hs
  have e2 : (ν 25) = s.2 := congrArg Prod.snd hs
  have e19 : (ρ 19 2) = (μ 19 2) := by rw [st 19 (by decide) (by decide)]
  have e20 : (ρ 20) = (μ 20) := st 20 (by decide) (by decide)
  have e9 : (ρ 9 1) = (μ 9 1) := by rw [st 9 (by decide) (by decide)]
  have e23 : (ρ 23) = (μ 23) := st 23 (by decide) (by decide)
  have tail : ∀ τ : MU, gFr [62, 72, 73] ρ τ → hSl ρ τ → ((hSame μ s.1 ∧ τ 62 = ρ 62) ∨ (¬ hSame μ s.1 ∧ ∀ y k : Int, 0 ≤ y → y < (ρ 9 1) → (ρ 23) y ≤ k → k < (ρ 23) (y + 1) → τ 62 (229 + k) = pkX ρ s.1 y k)) → Q (some (gI (xCa ρ s.2))) g_SH τ := by
    intro τ hτ hsl hc
    have s2 : hSt ρ τ := hτ.st (by decide)
    have st2 := st.tr s2
    have hKτ : iK τ s.1 s.2 := hsl.k hτ (by decide) (by decide) (by decide) hK
    have hμτ : gFr [24, 25, 26, 27, 28, 29, 30, 31, 32, 34, 35, 61, 62, 66, 67, 68, 69, 70, 71, 72, 73, 74, 75, 76, 77, 78, 79, 80] μ τ := (hν.mo (by decide)).tr ((hρ.mo (by decide)).tr (hτ.mo (by decide)))
    have q1 : (τ 24) = s.1 := by rw [hτ 24 (by decide), hρ 24 (by decide)]; exact e1
    have q2 : (τ 25) = s.2 := by rw [hτ 25 (by decide), hρ 25 (by decide)]; exact e2
    have q34 : (τ 34) = (ν 34) := by rw [hτ 34 (by decide), hρ 34 (by decide)]
    rw [xCa_c st]
    refine h τ (fin_o hA l1 hμτ (fun j hj => by rw [hτ 61 (by decide)]; exact h61 j hj) (by rw [hτ 61 (by decide)]; exact hf) (by rw [q1, q2]; exact hKτ) (by rw [q1]; exact hOC.2) (by rw [hsl 2 (by omega), h62 2 (by omega)]; omega) ?_ ?_) hKτ st2
    · rw [q1, q34]; exact hL1
    · rw [q1]
      rcases hc with ⟨c1, c2⟩ | ⟨c1, c2⟩
      · exact Or.inl ⟨c1, fun k k0 k1 => by rw [c2]; exact h62 _ (by omega)⟩
      · refine Or.inr ⟨c1, fun y k y0 y1 k0 k1 => ?_⟩
        have z := c2 y k y0 (by omega) (by rw [e23]; exact k0) (by rw [e23]; exact k1)
        rw [pkX_c st] at z
        exact z
  refine t_185 hD (sq0 := (μ 24)) hK (fun k k0 k1 => ?_) (fun c ν₁ hν₁ => ?_) (fun c ν₁ hν₁ hsl hpk => ?_)
  · rw [e19] at k1
    rw [e20, e19]
    exact ⟨hbf k k0 k1, (iO_k hA.1.1 hA.1.2.1 dN dO k0 k1).1⟩
  · rw [e19] at c
    exact tail ν₁ (hν₁.mo (by decide)) (fun k _ => by rw [hν₁ 62 (by decide)]) (Or.inl ⟨c, hν₁ 62 (by decide)⟩)
  · rw [e19] at c
    exact tail ν₁ hν₁ hsl (Or.inr ⟨c, hpk⟩)
/-- the model begins and remembers -/
theorem m_rem {D : Nat} (hD : 2 ≤ D) {μ ρ : MU} {Q : GQ} (hst : hSt μ ρ) (hK : iK ρ (μ 24) (μ 25)) (h : ∀ ρ' : MU, gFr [74] ρ ρ' → iK ρ' (μ 24) (μ 25) → (∀ k : Int, 0 ≤ k → k < (μ 19 2) → (ρ' 74) k = (μ 20) ((μ 24) k)) → Q none g_SH ρ') : gCall g_T g_F D 184 [gR 61, gR 74] g_SH ρ Q := by
  have V := hK.2.1.1
  have G := hK.1.1.1
  refine t_184_74 (by omega) ⟨hK.2.2.1.1.1, by omega, by omega⟩ (fun ρ' hρ' hb => ?_)
  have s : hSt ρ ρ' := hρ'.st (by decide)
  refine h ρ' hρ' (iK_c s (hρ'.sm (by decide) (by decide) (by decide)) (hρ' 62 (by decide)) hK) (fun k k0 k1 => ?_)
  rw [← hst 19 (by decide) (by decide)] at k1
  rw [hb k k0 k1, hK.2.2.2.2 k k0 k1, hst 20 (by decide) (by decide)]
theorem c_96 {D : Nat} (hD : 30 ≤ D) {μ : MU} (hA : iAll μ) {b : Int} (hb01 : b = 0 ∨ b = 1) : hCs D 96 190 [gI b] μ := by
  intro Q Q' h h'
  by_cases l1 : (μ 0 6) = 1
  · skip
    have hG := hA.1.1
    have hL := hA.1.2.1
    obtain ⟨hN, hO, hC, hX⟩ := hA.1.2.2.2 l1
    obtain ⟨hS, hq, hx⟩ := hA.2.1.2.2 l1
    have ml := hA.2.1.2.1
    have G := hG.1
    have L := hL.2.2.2.1
    have V := hN.1
    have M := hA.2.1.1.1
    have sO : iOC μ (swpA μ b ((μ 24), (μ 25))) := swpA_o (s := ((μ 24), (μ 25))) hG hL hN ⟨hO, hC⟩ b
    obtain ⟨d, rfl⟩ := gD (show 1 ≤ D by omega)
    refine gC 300 [] rfl ?_
    (conv => whnf); try simp only [gO, gWe, ne_eq, Nat.reduceEqDiff, not_false_eq_true, true_or, or_true, true_and]
    repeat' (first | exact True.intro | (refine ⟨fun hb => ?_, fun hb => ?_⟩ <;> first | (exfalso; omega; done) | exact absurd True.intro hb | ((conv => whnf); try simp only [gO, gWe, ne_eq, Nat.reduceEqDiff, not_false_eq_true, true_or, or_true, true_and])) | (refine ⟨by omega, ?_⟩; (conv => whnf); try simp only [gO, gWe, ne_eq, Nat.reduceEqDiff, not_false_eq_true, true_or, or_true, true_and]) | (refine ⟨fun hb => ?_, ?_⟩ <;> first | (exfalso; omega; done) | exact absurd True.intro hb | ((conv => whnf); try simp only [gO, gWe, ne_eq, Nat.reduceEqDiff, not_false_eq_true, true_or, or_true, true_and])) | fail)
    refine t_45 (by omega) (fun ν₁ hν₁ hr => ?_)
    have s1 : hSt μ ν₁ := hν₁.st (by decide)
    (conv => whnf); try simp only [gO, gWe, ne_eq, Nat.reduceEqDiff, not_false_eq_true, true_or, or_true, true_and]
    repeat' (first | exact True.intro | (refine ⟨fun hb => ?_, fun hb => ?_⟩ <;> first | (exfalso; omega; done) | exact absurd True.intro hb | ((conv => whnf); try simp only [gO, gWe, ne_eq, Nat.reduceEqDiff, not_false_eq_true, true_or, or_true, true_and])) | (refine ⟨by omega, ?_⟩; (conv => whnf); try simp only [gO, gWe, ne_eq, Nat.reduceEqDiff, not_false_eq_true, true_or, or_true, true_and]) | (refine ⟨fun hb => ?_, ?_⟩ <;> first | (exfalso; omega; done) | exact absurd True.intro hb | ((conv => whnf); try simp only [gO, gWe, ne_eq, Nat.reduceEqDiff, not_false_eq_true, true_or, or_true, true_and])) | fail)
    refine t_58 (by omega) ⟨iG_c s1 hG, iL_c s1 hL, iN_c s1 hN, by rw [hν₁ 24 (by decide), hν₁ 25 (by decide)]; exact iO_c s1 hO⟩ (fun z z0 z1 => by rw [hν₁ 24 (by decide)]; rw [s1 9 (by decide) (by decide)] at z1; exact iC_c s1 (hC z z0 z1)) (fun ν₂ hν₂ hs2 => ?_)
    rw [swpA_c s1, hν₁ 24 (by decide), hν₁ 25 (by decide)] at hs2
    have f2 : gFr [24, 25, 26, 27, 28, 29, 30, 31, 32] μ ν₂ := (hν₁.mo (by decide)).tr (hν₂.mo (by decide))
    (conv => whnf); try simp only [gO, gWe, ne_eq, Nat.reduceEqDiff, not_false_eq_true, true_or, or_true, true_and]
    repeat' (first | exact True.intro | (refine ⟨fun hb => ?_, fun hb => ?_⟩ <;> first | (exfalso; omega; done) | exact absurd True.intro hb | ((conv => whnf); try simp only [gO, gWe, ne_eq, Nat.reduceEqDiff, not_false_eq_true, true_or, or_true, true_and])) | (refine ⟨by omega, ?_⟩; (conv => whnf); try simp only [gO, gWe, ne_eq, Nat.reduceEqDiff, not_false_eq_true, true_or, or_true, true_and]) | (refine ⟨fun hb => ?_, ?_⟩ <;> first | (exfalso; omega; done) | exact absurd True.intro hb | ((conv => whnf); try simp only [gO, gWe, ne_eq, Nat.reduceEqDiff, not_false_eq_true, true_or, or_true, true_and])) | fail)
    refine c_tail (by omega) hA l1 f2 hs2 sO.1 (fun j j0 j1 => by rw [hν₂ 26 (by decide)]; exact hr j j0 j1) (fun ν₃ hν₃ hLc => ?_)
    have e3 : (ν₃ 24) = _ := (hν₃ 24 (by decide)).trans (congrArg Prod.fst hs2)
    have e4 : (ν₃ 25) = _ := (hν₃ 25 (by decide)).trans (congrArg Prod.snd hs2)
    have f3 : gFr [24, 25, 26, 27, 28, 29, 30, 31, 32, 34, 35] μ ν₃ := (f2.mo (by decide)).tr (hν₃.mo (by decide))
    have s3 : hSt μ ν₃ := f3.st (by decide)
    (conv => whnf); try simp only [gO, gWe, ne_eq, Nat.reduceEqDiff, not_false_eq_true, true_or, or_true, true_and]
    repeat' (first | exact True.intro | (refine ⟨fun hb => ?_, fun hb => ?_⟩ <;> first | (exfalso; omega; done) | exact absurd True.intro hb | ((conv => whnf); try simp only [gO, gWe, ne_eq, Nat.reduceEqDiff, not_false_eq_true, true_or, or_true, true_and])) | (refine ⟨by omega, ?_⟩; (conv => whnf); try simp only [gO, gWe, ne_eq, Nat.reduceEqDiff, not_false_eq_true, true_or, or_true, true_and]) | (refine ⟨fun hb => ?_, ?_⟩ <;> first | (exfalso; omega; done) | exact absurd True.intro hb | ((conv => whnf); try simp only [gO, gWe, ne_eq, Nat.reduceEqDiff, not_false_eq_true, true_or, or_true, true_and])) | fail)
    refine t_56 (by omega) ⟨iG_c s3 hG, iL_c s3 hL, iN_c s3 hN, by rw [e3, e4]; exact iO_c s3 sO.1⟩ (fun ν₄ hν₄ => ?_)
    rw [xCa_c s3, e4]
    have f4 : gFr [24, 25, 26, 27, 28, 29, 30, 31, 32, 34, 35] μ ν₄ := f3.tr (hν₄.mo (by decide))
    have e5 : ((ν₄ 24), (ν₄ 25)) = swpA μ b ((μ 24), (μ 25)) := by rw [hν₄ 24 (by decide), hν₄ 25 (by decide), e3, e4]
    have lc4 : hLC μ ν₄ (swpA μ b ((μ 24), (μ 25))).1 := by
      unfold hLC at *
      rw [hν₄ 34 (by decide)]
      exact hLc
    have m4 : (ν₄ 62 2) = 1 := by rw [f4 62 (by decide)]; omega
    (conv => whnf); try simp only [gO, gWe, ne_eq, Nat.reduceEqDiff, not_false_eq_true, true_or, or_true, true_and]
    repeat' (first | exact True.intro | (refine ⟨fun hb => ?_, fun hb => ?_⟩ <;> first | (exfalso; omega; done) | exact absurd True.intro hb | ((conv => whnf); try simp only [gO, gWe, ne_eq, Nat.reduceEqDiff, not_false_eq_true, true_or, or_true, true_and])) | (refine ⟨by omega, ?_⟩; (conv => whnf); try simp only [gO, gWe, ne_eq, Nat.reduceEqDiff, not_false_eq_true, true_or, or_true, true_and]) | (refine ⟨fun hb => ?_, ?_⟩ <;> first | (exfalso; omega; done) | exact absurd True.intro hb | ((conv => whnf); try simp only [gO, gWe, ne_eq, Nat.reduceEqDiff, not_false_eq_true, true_or, or_true, true_and])) | fail)
    refine h _ ν₄ ?_
    refine gC 300 [] rfl ?_
    (conv => whnf); try simp only [gO, gWe, ne_eq, Nat.reduceEqDiff, not_false_eq_true, true_or, or_true, true_and]
    repeat' (first | exact True.intro | (refine ⟨fun hb => ?_, fun hb => ?_⟩ <;> first | (exfalso; omega; done) | exact absurd True.intro hb | ((conv => whnf); try simp only [gO, gWe, ne_eq, Nat.reduceEqDiff, not_false_eq_true, true_or, or_true, true_and])) | (refine ⟨by omega, ?_⟩; (conv => whnf); try simp only [gO, gWe, ne_eq, Nat.reduceEqDiff, not_false_eq_true, true_or, or_true, true_and]) | (refine ⟨fun hb => ?_, ?_⟩ <;> first | (exfalso; omega; done) | exact absurd True.intro hb | ((conv => whnf); try simp only [gO, gWe, ne_eq, Nat.reduceEqDiff, not_false_eq_true, true_or, or_true, true_and])) | fail)
    refine m_begin (by omega) hA l1 f4 (fun ρ hρ h61 hf hK => ?_)
    have sρ : hSt μ ρ := (f4.st (by decide)).tr (hρ.st (by decide))
    (conv => whnf); try simp only [gO, gWe, ne_eq, Nat.reduceEqDiff, not_false_eq_true, true_or, or_true, true_and]
    repeat' (first | exact True.intro | (refine ⟨fun hb => ?_, fun hb => ?_⟩ <;> first | (exfalso; omega; done) | exact absurd True.intro hb | ((conv => whnf); try simp only [gO, gWe, ne_eq, Nat.reduceEqDiff, not_false_eq_true, true_or, or_true, true_and])) | (refine ⟨by omega, ?_⟩; (conv => whnf); try simp only [gO, gWe, ne_eq, Nat.reduceEqDiff, not_false_eq_true, true_or, or_true, true_and]) | (refine ⟨fun hb => ?_, ?_⟩ <;> first | (exfalso; omega; done) | exact absurd True.intro hb | ((conv => whnf); try simp only [gO, gWe, ne_eq, Nat.reduceEqDiff, not_false_eq_true, true_or, or_true, true_and])) | fail)
    refine m_rem (by omega) sρ hK (fun ρ₁ hρ₁ hK1 hbf => ?_)
    have sρ₁ : hSt μ ρ₁ := sρ.tr (hρ₁.st (by decide))
    (conv => whnf); try simp only [gO, gWe, ne_eq, Nat.reduceEqDiff, not_false_eq_true, true_or, or_true, true_and]
    repeat' (first | exact True.intro | (refine ⟨fun hb => ?_, fun hb => ?_⟩ <;> first | (exfalso; omega; done) | exact absurd True.intro hb | ((conv => whnf); try simp only [gO, gWe, ne_eq, Nat.reduceEqDiff, not_false_eq_true, true_or, or_true, true_and])) | (refine ⟨by omega, ?_⟩; (conv => whnf); try simp only [gO, gWe, ne_eq, Nat.reduceEqDiff, not_false_eq_true, true_or, or_true, true_and]) | (refine ⟨fun hb => ?_, ?_⟩ <;> first | (exfalso; omega; done) | exact absurd True.intro hb | ((conv => whnf); try simp only [gO, gWe, ne_eq, Nat.reduceEqDiff, not_false_eq_true, true_or, or_true, true_and])) | fail)
    refine t_189 (by omega) hK1 hb01 (fun z z0 z1 => by rw [sρ₁ 9 (by decide) (by decide)] at z1; exact iC_c sρ₁ (hC z z0 z1)) (fun ρ₂ hρ₂ hso hK2 => ?_)
    rw [swpA_c sρ₁] at hK2
    (conv => whnf); try simp only [gO, gWe, ne_eq, Nat.reduceEqDiff, not_false_eq_true, true_or, or_true, true_and]
    repeat' (first | exact True.intro | (refine ⟨fun hb => ?_, fun hb => ?_⟩ <;> first | (exfalso; omega; done) | exact absurd True.intro hb | ((conv => whnf); try simp only [gO, gWe, ne_eq, Nat.reduceEqDiff, not_false_eq_true, true_or, or_true, true_and])) | (refine ⟨by omega, ?_⟩; (conv => whnf); try simp only [gO, gWe, ne_eq, Nat.reduceEqDiff, not_false_eq_true, true_or, or_true, true_and]) | (refine ⟨fun hb => ?_, ?_⟩ <;> first | (exfalso; omega; done) | exact absurd True.intro hb | ((conv => whnf); try simp only [gO, gWe, ne_eq, Nat.reduceEqDiff, not_false_eq_true, true_or, or_true, true_and])) | fail)
    refine m_ends (by omega) hA l1 f4 e5 sO lc4 ((hρ.mo (by decide)).tr ((hρ₁.mo (by decide)).tr (hρ₂.mo (by decide)))) (fun j hj => ?_) ?_ (fun k hk => ?_) hK2 (fun k k0 k1 => ?_) (fun τ hτ hKτ _ => ?_)
    · rw [hρ₂ 61 (by decide), hρ₁ 61 (by decide)]; exact h61 j hj
    · rw [hρ₂ 61 (by decide), hρ₁ 61 (by decide)]; exact hf
    · rw [hso k hk, hρ₁ 62 (by decide), hρ 62 (by decide), f4 62 (by decide)]
    · rw [hρ₂ 74 (by decide)]; exact hbf k k0 k1
    · (conv => whnf); try simp only [gO, gWe, ne_eq, Nat.reduceEqDiff, not_false_eq_true, true_or, or_true, true_and]
      repeat' (first | exact True.intro | (refine ⟨fun hb => ?_, fun hb => ?_⟩ <;> first | (exfalso; omega; done) | exact absurd True.intro hb | ((conv => whnf); try simp only [gO, gWe, ne_eq, Nat.reduceEqDiff, not_false_eq_true, true_or, or_true, true_and])) | (refine ⟨by omega, ?_⟩; (conv => whnf); try simp only [gO, gWe, ne_eq, Nat.reduceEqDiff, not_false_eq_true, true_or, or_true, true_and]) | (refine ⟨fun hb => ?_, ?_⟩ <;> first | (exfalso; omega; done) | exact absurd True.intro hb | ((conv => whnf); try simp only [gO, gWe, ne_eq, Nat.reduceEqDiff, not_false_eq_true, true_or, or_true, true_and])) | fail)
      exact h' _ _ τ rfl hτ
  · have l0 : (μ 0 6) = 0 := by have := hA.1.2.2.1; omega
    have ml := hA.2.1.2.1
    obtain ⟨d, rfl⟩ := gD (show 1 ≤ D by omega)
    refine gC 300 [] rfl ?_
    (conv => whnf); try simp only [gO, gWe, ne_eq, Nat.reduceEqDiff, not_false_eq_true, true_or, or_true, true_and]
    repeat' (first | exact True.intro | (refine ⟨fun hb => ?_, fun hb => ?_⟩ <;> first | (exfalso; omega; done) | exact absurd True.intro hb | ((conv => whnf); try simp only [gO, gWe, ne_eq, Nat.reduceEqDiff, not_false_eq_true, true_or, or_true, true_and])) | (refine ⟨by omega, ?_⟩; (conv => whnf); try simp only [gO, gWe, ne_eq, Nat.reduceEqDiff, not_false_eq_true, true_or, or_true, true_and]) | (refine ⟨fun hb => ?_, ?_⟩ <;> first | (exfalso; omega; done) | exact absurd True.intro hb | ((conv => whnf); try simp only [gO, gWe, ne_eq, Nat.reduceEqDiff, not_false_eq_true, true_or, or_true, true_and])) | fail)
    refine h _ μ ?_
    refine gC 300 [] rfl ?_
    (conv => whnf); try simp only [gO, gWe, ne_eq, Nat.reduceEqDiff, not_false_eq_true, true_or, or_true, true_and]
    repeat' (first | exact True.intro | (refine ⟨fun hb => ?_, fun hb => ?_⟩ <;> first | (exfalso; omega; done) | exact absurd True.intro hb | ((conv => whnf); try simp only [gO, gWe, ne_eq, Nat.reduceEqDiff, not_false_eq_true, true_or, or_true, true_and])) | (refine ⟨by omega, ?_⟩; (conv => whnf); try simp only [gO, gWe, ne_eq, Nat.reduceEqDiff, not_false_eq_true, true_or, or_true, true_and]) | (refine ⟨fun hb => ?_, ?_⟩ <;> first | (exfalso; omega; done) | exact absurd True.intro hb | ((conv => whnf); try simp only [gO, gWe, ne_eq, Nat.reduceEqDiff, not_false_eq_true, true_or, or_true, true_and])) | fail)
    exact h' _ _ μ rfl hA
