variable {sN : Int} {sX : Int → Int}
/-! rounds of sweeps and siftings -/
/-- an order, the best one, its crossings -/
noncomputable def imp (μ : MU) (s : GO) : Nat → GO × GO
  | 0 => (s, s)
  | k + 1 =>
    if xCa μ (sfA μ (swpA μ 0 (swpA μ 1 (imp μ s k).1)) (μ 9 1).toNat).2 < xCa μ (imp μ s k).2.2 then (sfA μ (swpA μ 0 (swpA μ 1 (imp μ s k).1)) (μ 9 1).toNat, sfA μ (swpA μ 0 (swpA μ 1 (imp μ s k).1)) (μ 9 1).toNat)
    else (sfA μ (swpA μ 0 (swpA μ 1 (imp μ s k).1)) (μ 9 1).toNat, (imp μ s k).2)
theorem imp_O {μ : MU} {s : GO} (hG : iG μ) (hL : iL μ) (hN : iN μ) (hO : iOC μ s) : ∀ k : Nat, iOC μ (imp μ s k).1 ∧ iOC μ (imp μ s k).2 := by
  intro k
  induction k with
  | zero => exact ⟨hO, hO⟩
  | succ k ih =>
    have n := sfA_O hG hL hN (swpA_o hG hL hN (swpA_o hG hL hN ih.1 1) 0) (μ 9 1).toNat
    unfold imp
    split
    · exact ⟨n, n⟩
    · exact ⟨n, ih.2⟩
theorem swpD_c {μ ν : MU} (h : hSt μ ν) : swpD ν = swpD μ := by
  funext s n
  induction n with
  | zero => rfl
  | succ n ih => unfold swpD; rw [ih, swp1_c h]
theorem swpU_c {μ ν : MU} (h : hSt μ ν) : swpU ν = swpU μ := by
  funext s n
  induction n with
  | zero => rfl
  | succ n ih => unfold swpU; rw [ih, swp1_c h, h 9 (by decide) (by decide)]
theorem swpA_c {μ ν : MU} (h : hSt μ ν) : swpA ν = swpA μ := by
  funext b s
  unfold swpA
  rw [swpD_c h, swpU_c h, h 9 (by decide) (by decide)]
theorem iH_go {μ ν : MU} {s : GO} (h : hSt μ ν) (hG : iG μ) (hL : iL μ) (hN : iN μ) (hO : iOC μ s) (hs : ((ν 24), (ν 25)) = s) : iH ν ∧ ∀ z : Int, 0 ≤ z → z < (ν 9 1) → iC ν (ν 24) z := by
  subst hs
  refine ⟨⟨iG_c h hG, iL_c h hL, iN_c h hN, iO_c h hO.1⟩, fun z z0 z1 => ?_⟩
  rw [h 9 (by decide) (by decide)] at z1
  exact iC_c h (hO.2 z z0 z1)
theorem t_64 {D : Nat} (hD : 6 ≤ D) {μ : MU} {Q : GQ} {r : Int} (hH0 : iH μ) (hC : ∀ z : Int, 0 ≤ z → z < (μ 9 1) → iC μ (μ 24) z) (r0 : 0 ≤ r) (r1 : r ≤ 6) (h : ∀ ν : MU, gFr [24, 25, 27, 28, 29, 30, 31, 32] μ ν → (∀ j : Int, 0 ≤ j → j < (μ 19 2) → (ν 24) j = (imp μ ((μ 24), (μ 25)) r.toNat).2.1 j) → iO μ (ν 24) (ν 25) → Q (some (gI (xCa μ (imp μ ((μ 24), (μ 25)) r.toNat).2.2))) g_SH ν) : gCall g_T g_F sN sX D 64 [gR 19, gI r] g_SH μ Q := by
  have hG := hH0.1
  have hL := hH0.2.1
  have hN := hH0.2.2.1
  have L := hL.2.2.2.1
  have V := hN.1
  have G := hG.1
  have hOC : iOC μ ((μ 24), (μ 25)) := ⟨hH0.2.2.2, hC⟩
  have iO2 := imp_O hG hL hN hOC
  have cp : ∀ ρ : MU, gFr [27] ρ (gCp ρ 24 0 27 0 60) ∧ ∀ j : Int, 0 ≤ j → j < 60 → gCp ρ 24 0 27 0 60 27 j = (ρ 24) j := fun ρ => by
    refine ⟨fun c hc => ?_, fun j j0 j1 => ?_⟩
    · show (if c = 27 then _ else _) = _
      rw [if_neg (fun h => hc (by simp [h]))]
    · show (if 0 ≤ j ∧ j < 0 + 60 then (ρ 24) (0 + (j - 0)) else (ρ 27) j) = _
      rw [if_pos (by omega), show (0 : Int) + (j - 0) = j by omega]
  obtain ⟨d, rfl⟩ := gD (show 1 ≤ D by omega)
  refine gC 300 [22] rfl ?_
  (conv => whnf); try simp only [gO, gWe, ne_eq, Nat.reduceEqDiff, not_false_eq_true, true_or, or_true, true_and]
  repeat' (first | exact True.intro | (refine ⟨fun hb => ?_, fun hb => ?_⟩ <;> first | (exfalso; omega; done) | exact absurd True.intro hb | ((conv => whnf); try simp only [gO, gWe, ne_eq, Nat.reduceEqDiff, not_false_eq_true, true_or, or_true, true_and])) | (refine ⟨by omega, ?_⟩; (conv => whnf); try simp only [gO, gWe, ne_eq, Nat.reduceEqDiff, not_false_eq_true, true_or, or_true, true_and]) | (refine ⟨fun hb => ?_, ?_⟩ <;> first | (exfalso; omega; done) | exact absurd True.intro hb | ((conv => whnf); try simp only [gO, gWe, ne_eq, Nat.reduceEqDiff, not_false_eq_true, true_or, or_true, true_and])) | fail)
  have c0 := cp μ
  generalize gCp μ 24 0 27 0 60 = μ₁ at c0 ⊢
  have s0 : hSt μ μ₁ := c0.1.st (by decide)
  have I0 := iH_go s0 hG hL hN hOC (by rw [c0.1 24 (by decide), c0.1 25 (by decide)])
  refine t_56 (by omega) I0.1 (fun μ₂ hμ₂ => ?_)
  rw [xCa_c s0, c0.1 25 (by decide)]
  (conv => whnf); try simp only [gO, gWe, ne_eq, Nat.reduceEqDiff, not_false_eq_true, true_or, or_true, true_and]
  have key : ∀ k : Int, 0 ≤ k → k ≤ r → ∀ (ν : MU) (x : GV), gFr [24, 25, 27, 28, 29, 30, 31, 32] μ ν → ((ν 24), (ν 25)) = (imp μ ((μ 24), (μ 25)) k.toNat).1 → (∀ j : Int, 0 ≤ j → j < 60 → (ν 27) j = (imp μ ((μ 24), (μ 25)) k.toNat).2.1 j) → gG g_T g_F (gCall g_T g_F sN sX d) sN sX (g_T 64) Q 22 [gR 19, gI r, gI (xCa μ (imp μ ((μ 24), (μ 25)) k.toNat).2.2), gI k, x] [] g_SH ν 0 0 := by
    refine g_up (fun k k0 k1 ih ν x hν hs hb1 => ?_) (fun ν x hν hs hb1 => ?_)
    · have o := iO2 k.toNat
      rw [show (k + 1).toNat = k.toNat + 1 by omega] at ih
      unfold imp at ih
      generalize imp μ ((μ 24), (μ 25)) k.toNat = w at *
      have s1 : hSt μ ν := hν.st (by decide)
      have I1 := iH_go s1 hG hL hN o.1 hs
      have o1 := swpA_o hG hL hN o.1 1
      have o2 := swpA_o hG hL hN o1 0
      have o3 := sfA_O hG hL hN o2 (μ 9 1).toNat
      refine gB_gG [22] 300 ?_
      (conv => whnf); try simp only [gO, gWe, ne_eq, Nat.reduceEqDiff, not_false_eq_true, true_or, or_true, true_and]
      repeat' (first | exact True.intro | (refine ⟨fun hb => ?_, fun hb => ?_⟩ <;> first | (exfalso; omega; done) | exact absurd True.intro hb | ((conv => whnf); try simp only [gO, gWe, ne_eq, Nat.reduceEqDiff, not_false_eq_true, true_or, or_true, true_and])) | (refine ⟨by omega, ?_⟩; (conv => whnf); try simp only [gO, gWe, ne_eq, Nat.reduceEqDiff, not_false_eq_true, true_or, or_true, true_and]) | (refine ⟨fun hb => ?_, ?_⟩ <;> first | (exfalso; omega; done) | exact absurd True.intro hb | ((conv => whnf); try simp only [gO, gWe, ne_eq, Nat.reduceEqDiff, not_false_eq_true, true_or, or_true, true_and])) | fail)
      refine t_58 (by omega) I1.1 I1.2 (fun ν₁ hν₁ hs1 => ?_)
      rw [swpA_c s1, hs] at hs1
      have s2 : hSt μ ν₁ := s1.tr (hν₁.st (by decide))
      have I2 := iH_go s2 hG hL hN o1 hs1
      (conv => whnf); try simp only [gO, gWe, ne_eq, Nat.reduceEqDiff, not_false_eq_true, true_or, or_true, true_and]
      refine t_58 (by omega) I2.1 I2.2 (fun ν₂ hν₂ hs2 => ?_)
      rw [swpA_c s2, hs1] at hs2
      have s3 : hSt μ ν₂ := s2.tr (hν₂.st (by decide))
      have I3 := iH_go s3 hG hL hN o2 hs2
      (conv => whnf); try simp only [gO, gWe, ne_eq, Nat.reduceEqDiff, not_false_eq_true, true_or, or_true, true_and]
      refine t_63 (by omega) I3.1 I3.2 (fun ν₃ hν₃ hs3 => ?_)
      rw [sfA_c s3, hs2, s3 9 (by decide) (by decide)] at hs3
      have s4 : hSt μ ν₃ := s3.tr (hν₃.st (by decide))
      have I4 := iH_go s4 hG hL hN o3 hs3
      have p4 : (ν₃ 25) = _ := congrArg Prod.snd hs3
      (conv => whnf); try simp only [gO, gWe, ne_eq, Nat.reduceEqDiff, not_false_eq_true, true_or, or_true, true_and]
      refine t_56 (by omega) I4.1 (fun ν₄ hν₄ => ?_)
      rw [xCa_c s4, p4]
      have fr : gFr [24, 25, 27, 28, 29, 30, 31, 32] μ ν₄ := (((hν.tr (hν₁.mo (by decide))).tr (hν₂.mo (by decide))).tr (hν₃.mo (by decide))).tr (hν₄.mo (by decide))
      have e4 : ((ν₄ 24), (ν₄ 25)) = sfA μ (swpA μ 0 (swpA μ 1 w.1)) (μ 9 1).toNat := by rw [hν₄ 24 (by decide), hν₄ 25 (by decide)]; exact hs3
      have eb : (ν₄ 27) = (ν 27) := by rw [hν₄ 27 (by decide), hν₃ 27 (by decide), hν₂ 27 (by decide), hν₁ 27 (by decide)]
      (conv => whnf); try simp only [gO, gWe, ne_eq, Nat.reduceEqDiff, not_false_eq_true, true_or, or_true, true_and]
      generalize sfA μ (swpA μ 0 (swpA μ 1 w.1)) (μ 9 1).toNat = t at *
      by_cases c : xCa μ t.2 < xCa μ w.2.2
      · rw [if_pos c] at ih
        repeat' (first | exact True.intro | (refine ⟨fun hb => ?_, fun hb => ?_⟩ <;> first | (exfalso; omega; done) | exact absurd True.intro hb | ((conv => whnf); try simp only [gO, gWe, ne_eq, Nat.reduceEqDiff, not_false_eq_true, true_or, or_true, true_and])) | (refine ⟨by omega, ?_⟩; (conv => whnf); try simp only [gO, gWe, ne_eq, Nat.reduceEqDiff, not_false_eq_true, true_or, or_true, true_and]) | (refine ⟨fun hb => ?_, ?_⟩ <;> first | (exfalso; omega; done) | exact absurd True.intro hb | ((conv => whnf); try simp only [gO, gWe, ne_eq, Nat.reduceEqDiff, not_false_eq_true, true_or, or_true, true_and])) | fail)
        have c1 := cp ν₄
        refine ih _ _ (fr.tr (c1.1.mo (by decide))) ?_ (fun j j0 j1 => ?_)
        · rw [c1.1 24 (by decide), c1.1 25 (by decide)]; exact e4
        · rw [c1.2 j j0 j1]
          exact congrFun (congrArg Prod.fst e4) j
      · rw [if_neg c] at ih
        repeat' (first | exact True.intro | (refine ⟨fun hb => ?_, fun hb => ?_⟩ <;> first | (exfalso; omega; done) | exact absurd True.intro hb | ((conv => whnf); try simp only [gO, gWe, ne_eq, Nat.reduceEqDiff, not_false_eq_true, true_or, or_true, true_and])) | (refine ⟨by omega, ?_⟩; (conv => whnf); try simp only [gO, gWe, ne_eq, Nat.reduceEqDiff, not_false_eq_true, true_or, or_true, true_and]) | (refine ⟨fun hb => ?_, ?_⟩ <;> first | (exfalso; omega; done) | exact absurd True.intro hb | ((conv => whnf); try simp only [gO, gWe, ne_eq, Nat.reduceEqDiff, not_false_eq_true, true_or, or_true, true_and])) | fail)
        exact ih ν₄ _ fr e4 (fun j j0 j1 => by rw [eb]; exact hb1 j j0 j1)
    · have o := iO2 r.toNat
      generalize imp μ ((μ 24), (μ 25)) r.toNat = w at *
      have s1 : hSt μ ν := hν.st (by decide)
      have ob : iO ν (ν 27) w.2.2 := iO_c s1 (iO_sc hG hL hN o.2.1 (fun k k0 k1 => hb1 k k0 (by omega)))
      refine gB_gG [] 300 ?_
      (conv => whnf); try simp only [gO, gWe, ne_eq, Nat.reduceEqDiff, not_false_eq_true, true_or, or_true, true_and]
      repeat' (first | exact True.intro | (refine ⟨fun hb => ?_, fun hb => ?_⟩ <;> first | (exfalso; omega; done) | exact absurd True.intro hb | ((conv => whnf); try simp only [gO, gWe, ne_eq, Nat.reduceEqDiff, not_false_eq_true, true_or, or_true, true_and])) | (refine ⟨by omega, ?_⟩; (conv => whnf); try simp only [gO, gWe, ne_eq, Nat.reduceEqDiff, not_false_eq_true, true_or, or_true, true_and]) | (refine ⟨fun hb => ?_, ?_⟩ <;> first | (exfalso; omega; done) | exact absurd True.intro hb | ((conv => whnf); try simp only [gO, gWe, ne_eq, Nat.reduceEqDiff, not_false_eq_true, true_or, or_true, true_and])) | fail)
      refine t_47_27 (by omega) (iG_c s1 hG) (iL_c s1 hL) (iN_c s1 hN) ob (fun ρ hρ h1 h2 => ?_)
      (conv => whnf); try simp only [gO, gWe, ne_eq, Nat.reduceEqDiff, not_false_eq_true, true_or, or_true, true_and]
      refine h ρ (hν.tr (hρ.mo (by decide))) (fun j j0 j1 => ?_) (iO_c s1.sy h2)
      rw [h1 j j0 (by omega)]
      exact hb1 j j0 (by omega)
  have fr2 : gFr [24, 25, 27, 28, 29, 30, 31, 32] μ μ₂ := (c0.1.mo (by decide)).tr (hμ₂.mo (by decide))
  exact key 0 (by omega) r0 μ₂ _ fr2 (by rw [hμ₂ 24 (by decide), hμ₂ 25 (by decide), c0.1 24 (by decide), c0.1 25 (by decide)]; rfl) (fun j j0 j1 => by rw [hμ₂ 27 (by decide)]; exact c0.2 j j0 j1)
/-! the model's ends -/
