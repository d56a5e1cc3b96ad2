/-! rounds of sweeps and siftings -/
/-- an order, the best one, its crossings -/
noncomputable def imp (μ : MU) (s : GO) : Nat → GO × GO
  | 0 => (s, s)
  | k + 1 =>
    if xCa μ (sfA μ (swpA μ 0 (swpA μ 1 (imp μ s k).1)) (μ 9 1).toNat).2 < xCa μ (imp μ s k).2.2 then (sfA μ (swpA μ 0 (swpA μ 1 (imp μ s k).1)) (μ 9 1).toNat, sfA μ (swpA μ 0 (swpA μ 1 (imp μ s k).1)) (μ 9 1).toNat)
    else (sfA μ (swpA μ 0 (swpA μ 1 (imp μ s k).1)) (μ 9 1).toNat, (imp μ s k).2)
theorem imp_O {μ : MU} {s : GO} (hG : iG μ) (hL : iL μ) (hN : iN μ) (hO : iOC μ s) : ∀ k : Nat, iOC μ (imp μ s k).1 ∧ iOC μ (imp μ s k).2 := by
  intro k
  induction k with
  | zero => exact ⟨hO, hO⟩
  | succ k ih =>
    have n := sfA_O hG hL hN (swpA_o hG hL hN (swpA_o hG hL hN ih.1 1) 0) (μ 9 1).toNat
    unfold imp
    split
    · exact ⟨n, n⟩
    · exact ⟨n, ih.2⟩
theorem swpD_c {μ ν : MU} (h : hSt μ ν) : swpD ν = swpD μ := by
  funext s n
  induction n with
  | zero => rfl
  | succ n ih => unfold swpD; rw [ih, swp1_c h]
theorem swpU_c {μ ν : MU} (h : hSt μ ν) : swpU ν = swpU μ := by
  funext s n
  induction n with
  | zero => rfl
  | succ n ih => unfold swpU; rw [ih, swp1_c h, h 9 (by decide) (by decide)]
theorem swpA_c {μ ν : MU} (h : hSt μ ν) : swpA ν = swpA μ := by
  funext b s
  unfold swpA
  rw [swpD_c h, swpU_c h, h 9 (by decide) (by decide)]
theorem iH_go {μ ν : MU} {s : GO} (h : hSt μ ν) (hG : iG μ) (hL : iL μ) (hN : iN μ) (hO : iOC μ s) (hs : ((ν 24), (ν 25)) = s) : iH ν ∧ ∀ z : Int, 0 ≤ z → z < (ν 9 1) → iC ν (ν 24) z := by
  subst hs
  refine ⟨⟨iG_c h hG, iL_c h hL, iN_c h hN, iO_c h hO.1⟩, fun z z0 z1 => ?_⟩
  rw [h 9 (by decide) (by decide)] at z1
  exact iC_c h (hO.2 z z0 z1)
theorem t_64 {D : Nat} (hD : 6 ≤ D) {μ : MU} {Q : GQ} {r : Int} (hH0 : iH μ) (hC : ∀ z : Int, 0 ≤ z → z < (μ 9 1) → iC μ (μ 24) z) (r0 : 0 ≤ r) (r1 : r ≤ 6) (h : ∀ ν : MU, gFr [24, 25, 27, 28, 29, 30, 31, 32] μ ν → (∀ j : Int, 0 ≤ j → j < (μ 19 2) → (ν 24) j = (imp μ ((μ 24), (μ 25)) r.toNat).2.1 j) → iO μ (ν 24) (ν 25) → Q (some (gI (xCa μ (imp μ ((μ 24), (μ 25)) r.toNat).2.2))) g_SH ν) : gCall g_T g_F D 64 [gR 19, gI r] g_SH μ Q := by
  have hG := hH0.1
  have hL := hH0.2.1
  have hN := hH0.2.2.1
  have L := hL.2.2.2.1
  have V := hN.1
  have G := hG.1
  have hOC : iOC μ ((μ 24), (μ 25)) := ⟨hH0.2.2.2, hC⟩
  have iO2 := imp_O hG hL hN hOC
  have cp : ∀ ρ : MU, gFr [27] ρ (gCp ρ 24 0 27 0 60) ∧ ∀ j : Int, 0 ≤ j → j < 60 → gCp ρ 24 0 27 0 60 27 j = (ρ 24) j := fun ρ => by
    refine ⟨fun c hc => ?_, fun j j0 j1 => ?_⟩
    · show (if c = 27 then _ else _) = _
      rw [if_neg (fun h => hc (by simp [h]))]
    · show (if 0 ≤ j ∧ j < 0 + 60 then (ρ 24) (0 + (j - 0)) else (ρ 27) j) = _
      rw [if_pos (by omega), show (0 : Int) + (j - 0) = j by omega]
  obtain ⟨d, rfl⟩ := gD (show 1 ≤ D by omega)
  refine gC 300 [22] rfl ?_
  (conv => whnf); try simp only [gO, gWe, ne_eq, Nat.reduceEqDiff, not_false_eq_true, true_or, or_true, true_and]
  repeat' (first | exact True.intro | (refine ⟨fun hb => ?_, fun hb => ?_⟩ <;> first | (exfalso; omega; done) | exact absurd True.intro hb | ((conv => whnf); try simp only [gO, gWe, ne_eq, Nat.reduceEqDiff, not_false_eq_true, true_or, or_true, true_and])) | (refine ⟨by omega, ?_⟩; (conv => whnf); try simp only [gO, gWe, ne_eq, Nat.reduceEqDiff, not_false_eq_true, true_or, or_true, true_and]) | (refine ⟨fun hb => ?_, ?_⟩ <;> first | (exfalso; omega; done) | exact absurd True.intro hb | ((conv => whnf); try simp only [gO, gWe, ne_eq, Nat.reduceEqDiff, not_false_eq_true, true_or, or_true, true_and])) | fail)
  have c0 := cp μ
  generalize gCp μ 24 0 27 0 60 = μ₁ at c0 ⊢
  have s0 : hSt μ μ₁ := c0.1.st (by decide)
  have I0 := iH_go s0 hG hL hN hOC (by rw [c0.1 24 (by decide), c0.1 25 (by decide)])
  refine t_56 (by omega) I0.1 (fun μ₂ hμ₂ => ?_)
  rw [xCa_c s0, c0.1 25 (by decide)]
  (conv => whnf); try simp only [gO, gWe, ne_eq, Nat.reduceEqDiff, not_false_eq_true, true_or, or_true, true_and]
  have key : ∀ k : Int, 0 ≤ k → k ≤ r → ∀ (ν : MU) (x : GV), gFr [24, 25, 27, 28, 29, 30, 31, 32] μ ν → ((ν 24), (ν 25)) = (imp μ ((μ 24), (μ 25)) k.toNat).1 → (∀ j : Int, 0 ≤ j → j < 60 → (ν 27) j = (imp μ ((μ 24), (μ 25)) k.toNat).2.1 j) → gG g_T g_F (gCall g_T g_F d) 0 (fun _ => 0) (g_T 64) Q 22 [gR 19, gI r, gI (xCa μ (imp μ ((μ 24), (μ 25)) k.toNat).2.2), gI k, x] [] g_SH ν 0 0 := by
    refine g_up (fun k k0 k1 ih ν x hν hs hb1 => ?_) (fun ν x hν hs hb1 => ?_)
    · have o := iO2 k.toNat
      rw [show (k + 1).toNat = k.toNat + 1 by omega] at ih
      unfold imp at ih
      generalize imp μ ((μ 24), (μ 25)) k.toNat = w at *
      have s1 : hSt μ ν := hν.st (by decide)
      have I1 := iH_go s1 hG hL hN o.1 hs
      have o1 := swpA_o hG hL hN o.1 1
      have o2 := swpA_o hG hL hN o1 0
      have o3 := sfA_O hG hL hN o2 (μ 9 1).toNat
      refine gB_gG [22] 300 ?_
      (conv => whnf); try simp only [gO, gWe, ne_eq, Nat.reduceEqDiff, not_false_eq_true, true_or, or_true, true_and]
      repeat' (first | exact True.intro | (refine ⟨fun hb => ?_, fun hb => ?_⟩ <;> first | (exfalso; omega; done) | exact absurd True.intro hb | ((conv => whnf); try simp only [gO, gWe, ne_eq, Nat.reduceEqDiff, not_false_eq_true, true_or, or_true, true_and])) | (refine ⟨by omega, ?_⟩; (conv => whnf); try simp only [gO, gWe, ne_eq, Nat.reduceEqDiff, not_false_eq_true, true_or, or_true, true_and]) | (refine ⟨fun hb => ?_, ?_⟩ <;> first | (exfalso; omega; done) | exact absurd True.intro hb | ((conv => whnf); try simp only [gO, gWe, ne_eq, Nat.reduceEqDiff, not_false_eq_true, true_or, or_true, true_and])) | fail)
      refine t_58 (by omega) I1.1 I1.2 (fun ν₁ hν₁ hs1 => ?_)
      rw [swpA_c s1, hs] at hs1
      have s2 : hSt μ ν₁ := s1.tr (hν₁.st (by decide))
      have I2 := iH_go s2 hG hL hN o1 hs1
      (conv => whnf); try simp only [gO, gWe, ne_eq, Nat.reduceEqDiff, not_false_eq_true, true_or, or_true, true_and]
      refine t_58 (by omega) I2.1 I2.2 (fun ν₂ hν₂ hs2 => ?_)
      rw [swpA_c s2, hs1] at hs2
      have s3 : hSt μ ν₂ := s2.tr (hν₂.st (by decide))
      have I3 := iH_go s3 hG hL hN o2 hs2
      (conv => whnf); try simp only [gO, gWe, ne_eq, Nat.reduceEqDiff, not_false_eq_true, true_or, or_true, true_and]
      refine t_63 (by omega) I3.1 I3.2 (fun ν₃ hν₃ hs3 => ?_)
      rw [sfA_c s3, hs2, s3 9 (by decide) (by decide)] at hs3
      have s4 : hSt μ ν₃ := s3.tr (hν₃.st (by decide))
      have I4 := iH_go s4 hG hL hN o3 hs3
      have p4 : (ν₃ 25) = _ := congrArg Prod.snd hs3
      (conv => whnf); try simp only [gO, gWe, ne_eq, Nat.reduceEqDiff, not_false_eq_true, true_or, or_true, true_and]
      refine t_56 (by omega) I4.1 (fun ν₄ hν₄ => ?_)
      rw [xCa_c s4, p4]
      have fr : gFr [24, 25, 27, 28, 29, 30, 31, 32] μ ν₄ := (((hν.tr (hν₁.mo (by decide))).tr (hν₂.mo (by decide))).tr (hν₃.mo (by decide))).tr (hν₄.mo (by decide))
      have e4 : ((ν₄ 24), (ν₄ 25)) = sfA μ (swpA μ 0 (swpA μ 1 w.1)) (μ 9 1).toNat := by rw [hν₄ 24 (by decide), hν₄ 25 (by decide)]; exact hs3
      have eb : (ν₄ 27) = (ν 27) := by rw [hν₄ 27 (by decide), hν₃ 27 (by decide), hν₂ 27 (by decide), hν₁ 27 (by decide)]
      (conv => whnf); try simp only [gO, gWe, ne_eq, Nat.reduceEqDiff, not_false_eq_true, true_or, or_true, true_and]
      generalize sfA μ (swpA μ 0 (swpA μ 1 w.1)) (μ 9 1).toNat = t at *
      by_cases c : xCa μ t.2 < xCa μ w.2.2
      · rw [if_pos c] at ih
        repeat' (first | exact True.intro | (refine ⟨fun hb => ?_, fun hb => ?_⟩ <;> first | (exfalso; omega; done) | exact absurd True.intro hb | ((conv => whnf); try simp only [gO, gWe, ne_eq, Nat.reduceEqDiff, not_false_eq_true, true_or, or_true, true_and])) | (refine ⟨by omega, ?_⟩; (conv => whnf); try simp only [gO, gWe, ne_eq, Nat.reduceEqDiff, not_false_eq_true, true_or, or_true, true_and]) | (refine ⟨fun hb => ?_, ?_⟩ <;> first | (exfalso; omega; done) | exact absurd True.intro hb | ((conv => whnf); try simp only [gO, gWe, ne_eq, Nat.reduceEqDiff, not_false_eq_true, true_or, or_true, true_and])) | fail)
        have c1 := cp ν₄
        refine ih _ _ (fr.tr (c1.1.mo (by decide))) ?_ (fun j j0 j1 => ?_)
        · rw [c1.1 24 (by decide), c1.1 25 (by decide)]; exact e4
        · rw [c1.2 j j0 j1]
          exact congrFun (congrArg Prod.fst e4) j
      · rw [if_neg c] at ih
        repeat' (first | exact True.intro | (refine ⟨fun hb => ?_, fun hb => ?_⟩ <;> first | (exfalso; omega; done) | exact absurd True.intro hb | ((conv => whnf); try simp only [gO, gWe, ne_eq, Nat.reduceEqDiff, not_false_eq_true, true_or, or_true, true_and])) | (refine ⟨by omega, ?_⟩; (conv => whnf); try simp only [gO, gWe, ne_eq, Nat.reduceEqDiff, not_false_eq_true, true_or, or_true, true_and]) | (refine ⟨fun hb => ?_, ?_⟩ <;> first | (exfalso; omega; done) | exact absurd True.intro hb | ((conv => whnf); try simp only [gO, gWe, ne_eq, Nat.reduceEqDiff, not_false_eq_true, true_or, or_true, true_and])) | fail)
        exact ih ν₄ _ fr e4 (fun j j0 j1 => by rw [eb]; exact hb1 j j0 j1)
    · have o := iO2 r.toNat
      generalize imp μ ((μ 24), (μ 25)) r.toNat = w at *
      have s1 : hSt μ ν := hν.st (by decide)
      have ob : iO ν (ν 27) w.2.2 := iO_c s1 (iO_sc hG hL hN o.2.1 (fun k k0 k1 => hb1 k k0 (by omega)))
      refine gB_gG [] 300 ?_
      (conv => whnf); try simp only [gO, gWe, ne_eq, Nat.reduceEqDiff, not_false_eq_true, true_or, or_true, true_and]
      repeat' (first | exact True.intro | (refine ⟨fun hb => ?_, fun hb => ?_⟩ <;> first | (exfalso; omega; done) | exact absurd True.intro hb | ((conv => whnf); try simp only [gO, gWe, ne_eq, Nat.reduceEqDiff, not_false_eq_true, true_or, or_true, true_and])) | (refine ⟨by omega, ?_⟩; (conv => whnf); try simp only [gO, gWe, ne_eq, Nat.reduceEqDiff, not_false_eq_true, true_or, or_true, true_and]) | (refine ⟨fun hb => ?_, ?_⟩ <;> first | (exfalso; omega; done) | exact absurd True.intro hb | ((conv => whnf); try simp only [gO, gWe, ne_eq, Nat.reduceEqDiff, not_false_eq_true, true_or, or_true, true_and])) | fail)
      refine t_47_27 (by omega) (iG_c s1 hG) (iL_c s1 hL) (iN_c s1 hN) ob (fun ρ hρ h1 h2 => ?_)
      (conv => whnf); try simp only [gO, gWe, ne_eq, Nat.reduceEqDiff, not_false_eq_true, true_or, or_true, true_and]
      refine h ρ (hν.tr (hρ.mo (by decide))) (fun j j0 j1 => ?_) (iO_c s1.sy h2)
      rw [h1 j j0 (by omega)]
      exact hb1 j j0 (by omega)
  have fr2 : gFr [24, 25, 27, 28, 29, 30, 31, 32] μ μ₂ := (c0.1.mo (by decide)).tr (hμ₂.mo (by decide))
  exact key 0 (by omega) r0 μ₂ _ fr2 (by rw [hμ₂ 24 (by decide), hμ₂ 25 (by decide), c0.1 24 (by decide), c0.1 25 (by decide)]; rfl) (fun j j0 j1 => by rw [hμ₂ 27 (by decide)]; exact c0.2 j j0 j1)
/-! the model's ends -/
theorem t_184_74 {D : Nat} (hD : 1 ≤ D) {μ : MU} {Q : GQ} (hV : (μ 62 3) = (μ 19 2) ∧ 0 ≤ (μ 19 2) ∧ (μ 19 2) ≤ 60) (h : ∀ ν : MU, gFr [74] μ ν → (∀ k : Int, 0 ≤ k → k < (μ 19 2) → ν 74 k = (μ 62) (169 + k)) → Q none g_SH ν) : gCall g_T g_F D 184 [gR 61, gR 74] g_SH μ Q := by
  obtain ⟨d, rfl⟩ := gD (show 1 ≤ D by omega)
  refine gC 300 [2] rfl ?_
  (conv => whnf); try simp only [gO, gWe, ne_eq, Nat.reduceEqDiff, not_false_eq_true, true_or, or_true, true_and]
  have key : ∀ k : Int, 0 ≤ k → k ≤ (μ 19 2) → ∀ ν : MU, gFr [74] μ ν → (∀ j : Int, 0 ≤ j → j < k → ν 74 j = (μ 62) (169 + j)) → gG g_T g_F (gCall g_T g_F d) 0 (fun _ => 0) (g_T 184) Q 2 [gR 61, gR 74, gI k] [] g_SH ν 0 0 := by
    refine g_up (fun k k0 k1 ih ν hν hk => ?_) (fun ν hν hk => ?_)
    · have e : ν 62 = μ 62 := hν 62 (by decide)
      have e3 : ν 62 3 = μ 62 3 := by rw [e]
      refine gB_gG [2] 300 ?_
      (conv => whnf); try simp only [gO, gWe, ne_eq, Nat.reduceEqDiff, not_false_eq_true, true_or, or_true, true_and]
      repeat' (first | exact True.intro | (refine ⟨fun hb => ?_, fun hb => ?_⟩ <;> first | (exfalso; omega; done) | exact absurd True.intro hb | ((conv => whnf); try simp only [gO, gWe, ne_eq, Nat.reduceEqDiff, not_false_eq_true, true_or, or_true, true_and])) | (refine ⟨by omega, ?_⟩; (conv => whnf); try simp only [gO, gWe, ne_eq, Nat.reduceEqDiff, not_false_eq_true, true_or, or_true, true_and]) | (refine ⟨fun hb => ?_, ?_⟩ <;> first | (exfalso; omega; done) | exact absurd True.intro hb | ((conv => whnf); try simp only [gO, gWe, ne_eq, Nat.reduceEqDiff, not_false_eq_true, true_or, or_true, true_and])) | fail)
      rw [e]
      refine ih _ (hν.W (by decide)) (fun j j0 j1 => ?_)
      by_cases c : j = k
      · subst c; rw [gWe]
      · rw [gWn _ _ _ c]; exact hk j j0 (by omega)
    · have e3 : ν 62 3 = μ 62 3 := by rw [hν 62 (by decide)]
      refine gB_gG [] 300 ?_
      (conv => whnf); try simp only [gO, gWe, ne_eq, Nat.reduceEqDiff, not_false_eq_true, true_or, or_true, true_and]
      repeat' (first | exact True.intro | (refine ⟨fun hb => ?_, fun hb => ?_⟩ <;> first | (exfalso; omega; done) | exact absurd True.intro hb | ((conv => whnf); try simp only [gO, gWe, ne_eq, Nat.reduceEqDiff, not_false_eq_true, true_or, or_true, true_and])) | (refine ⟨by omega, ?_⟩; (conv => whnf); try simp only [gO, gWe, ne_eq, Nat.reduceEqDiff, not_false_eq_true, true_or, or_true, true_and]) | (refine ⟨fun hb => ?_, ?_⟩ <;> first | (exfalso; omega; done) | exact absurd True.intro hb | ((conv => whnf); try simp only [gO, gWe, ne_eq, Nat.reduceEqDiff, not_false_eq_true, true_or, or_true, true_and])) | fail)
      exact h ν hν hk
  exact key 0 (by omega) (by omega) μ gFr.rf (fun j _ _ => by omega)
theorem t_184_75 {D : Nat} (hD : 1 ≤ D) {μ : MU} {Q : GQ} (hV : (μ 62 3) = (μ 19 2) ∧ 0 ≤ (μ 19 2) ∧ (μ 19 2) ≤ 60) (h : ∀ ν : MU, gFr [75] μ ν → (∀ k : Int, 0 ≤ k → k < (μ 19 2) → ν 75 k = (μ 62) (169 + k)) → Q none g_SH ν) : gCall g_T g_F D 184 [gR 61, gR 75] g_SH μ Q := by
  obtain ⟨d, rfl⟩ := gD (show 1 ≤ D by omega)
  refine gC 300 [2] rfl ?_
  (conv => whnf); try simp only [gO, gWe, ne_eq, Nat.reduceEqDiff, not_false_eq_true, true_or, or_true, true_and]
  have key : ∀ k : Int, 0 ≤ k → k ≤ (μ 19 2) → ∀ ν : MU, gFr [75] μ ν → (∀ j : Int, 0 ≤ j → j < k → ν 75 j = (μ 62) (169 + j)) → gG g_T g_F (gCall g_T g_F d) 0 (fun _ => 0) (g_T 184) Q 2 [gR 61, gR 75, gI k] [] g_SH ν 0 0 := by
    refine g_up (fun k k0 k1 ih ν hν hk => ?_) (fun ν hν hk => ?_)
    · have e : ν 62 = μ 62 := hν 62 (by decide)
      have e3 : ν 62 3 = μ 62 3 := by rw [e]
      refine gB_gG [2] 300 ?_
      (conv => whnf); try simp only [gO, gWe, ne_eq, Nat.reduceEqDiff, not_false_eq_true, true_or, or_true, true_and]
      repeat' (first | exact True.intro | (refine ⟨fun hb => ?_, fun hb => ?_⟩ <;> first | (exfalso; omega; done) | exact absurd True.intro hb | ((conv => whnf); try simp only [gO, gWe, ne_eq, Nat.reduceEqDiff, not_false_eq_true, true_or, or_true, true_and])) | (refine ⟨by omega, ?_⟩; (conv => whnf); try simp only [gO, gWe, ne_eq, Nat.reduceEqDiff, not_false_eq_true, true_or, or_true, true_and]) | (refine ⟨fun hb => ?_, ?_⟩ <;> first | (exfalso; omega; done) | exact absurd True.intro hb | ((conv => whnf); try simp only [gO, gWe, ne_eq, Nat.reduceEqDiff, not_false_eq_true, true_or, or_true, true_and])) | fail)
      rw [e]
      refine ih _ (hν.W (by decide)) (fun j j0 j1 => ?_)
      by_cases c : j = k
      · subst c; rw [gWe]
      · rw [gWn _ _ _ c]; exact hk j j0 (by omega)
    · have e3 : ν 62 3 = μ 62 3 := by rw [hν 62 (by decide)]
      refine gB_gG [] 300 ?_
      (conv => whnf); try simp only [gO, gWe, ne_eq, Nat.reduceEqDiff, not_false_eq_true, true_or, or_true, true_and]
      repeat' (first | exact True.intro | (refine ⟨fun hb => ?_, fun hb => ?_⟩ <;> first | (exfalso; omega; done) | exact absurd True.intro hb | ((conv => whnf); try simp only [gO, gWe, ne_eq, Nat.reduceEqDiff, not_false_eq_true, true_or, or_true, true_and])) | (refine ⟨by omega, ?_⟩; (conv => whnf); try simp only [gO, gWe, ne_eq, Nat.reduceEqDiff, not_false_eq_true, true_or, or_true, true_and]) | (refine ⟨fun hb => ?_, ?_⟩ <;> first | (exfalso; omega; done) | exact absurd True.intro hb | ((conv => whnf); try simp only [gO, gWe, ne_eq, Nat.reduceEqDiff, not_false_eq_true, true_or, or_true, true_and])) | fail)
      exact h ν hν hk
  exact key 0 (by omega) (by omega) μ gFr.rf (fun j _ _ => by omega)
/-- only the left coordinates of the model have changed -/
def hSl (μ ν : MU) : Prop := ∀ k : Int, k < 229 → ν 62 k = μ 62 k
theorem hSl.sm {l : List Nat} {μ ν : MU} (h : hSl μ ν) (hf : gFr l μ ν) (h1 : 66 ∉ l) (h2 : 67 ∉ l) : hSm μ ν := ⟨hf 66 h1, hf 67 h2, fun k _ b => h k (by omega)⟩
theorem hSl.k {l : List Nat} {μ ν : MU} {sq pl : Int → Int} (h : hSl μ ν) (hf : gFr l μ ν) (h0 : ∀ c ∈ l, 23 < c) (h1 : 66 ∉ l) (h2 : 67 ∉ l) (hK : iK μ sq pl) : iK ν sq pl := by
  have s1 : hSt μ ν := hf.st h0
  have s2 := h.sm hf h1 h2
  have V := hK.2.1.1
  refine ⟨iM_c s1 s2 hK.1, iN_c s1 hK.2.1, iDs_c s1 s2 hK.1.2.1 hK.2.2.1, iO_c s1 hK.2.2.2.1, fun k k0 k1 => ?_⟩
  rw [s1 19 (by decide) (by decide)] at k1
  rw [h _ (by omega), s1 20 (by decide) (by decide)]
  exact hK.2.2.2.2 k k0 k1
theorem t_198 {D : Nat} (hD : 2 ≤ D) {μ : MU} {Q : GQ} {sq pl : Int → Int} (hK : iK μ sq pl) (h : ∀ ν : MU, gFr [62] μ ν → hSl μ ν → (∀ y k : Int, 0 ≤ y → y < (μ 9 1) → (μ 23) y ≤ k → k < (μ 23) (y + 1) → ν 62 (229 + k) = pkX μ sq y k) → Q none g_SH ν) : gCall g_T g_F D 198 [gR 61] g_SH μ Q := by
  have hM := hK.1
  have hN := hK.2.1
  have hG := hM.1
  have hL := hM.2.1
  have hO := hK.2.2.2.1
  have L := hL.2.2.2.1
  have V := hN.1
  have G := hG.1
  obtain ⟨d, rfl⟩ := gD (show 1 ≤ D by omega)
  refine gC 300 [2] rfl ?_
  (conv => whnf); try simp only [gO, gWe, ne_eq, Nat.reduceEqDiff, not_false_eq_true, true_or, or_true, true_and]
  have out : ∀ y : Int, 0 ≤ y → y ≤ (μ 9 1) → ∀ (ν : MU) (x1 x2 : GV), gFr [62] μ ν → hSl μ ν → (∀ z k : Int, 0 ≤ z → z < y → (μ 23) z ≤ k → k < (μ 23) (z + 1) → ν 62 (229 + k) = pkX μ sq z k) → gG g_T g_F (gCall g_T g_F d) 0 (fun _ => 0) (g_T 198) Q 2 [gR 61, gI y, x1, x2] [] g_SH ν 0 0 := by
    refine g_up (fun y y0 y1 ih ν x1 x2 hν hl hp => ?_) (fun ν x1 x2 hν hl hp => ?_)
    · have st := (iN_st hG hL hN).1 y y0 y1
      have inn : ∀ k : Int, (μ 23) y ≤ k → k ≤ (μ 23) (y + 1) → ∀ (ν : MU), gFr [62] μ ν → hSl μ ν → (∀ z k : Int, 0 ≤ z → z < y → (μ 23) z ≤ k → k < (μ 23) (z + 1) → ν 62 (229 + k) = pkX μ sq z k) → (∀ j : Int, (μ 23) y ≤ j → j < k → ν 62 (229 + j) = pkX μ sq y j) → gG g_T g_F (gCall g_T g_F d) 0 (fun _ => 0) (g_T 198) Q 20 [gR 61, gI y, gI (pkX μ sq y k), gI k] [] g_SH ν 0 0 := by
        refine g_up (fun k k0 k1 ihk ν hν hl hp hq => ?_) (fun ν hν hl hp hq => ?_)
        · have kν := hl.k hν (by decide) (by decide) (by decide) hK
          have s1 : hSt μ ν := hν.st (by decide)
          have f9 : (ν 9 1) = (μ 9 1) := by rw [s1 9 (by decide) (by decide)]
          have f2 : (ν 23) (y + 1) = (μ 23) (y + 1) := by rw [s1 23 (by decide) (by decide)]
          have f3 : ν 62 (169 + k) = (μ 20) (sq k) := by rw [hl _ (by omega)]; exact hK.2.2.2.2 k (by omega) (by omega)
          have rg := (hO.1 y y0 y1 k k0 k1).1
          have b := pkX_b hG hL hN hO y0 y1 k0 (by omega)
          have wb := xWd_b hG rg.1
          rw [pkX_s k0] at ihk
          refine gB_gG [20] 300 ?_
          (conv => whnf); try simp only [gO, gWe, ne_eq, Nat.reduceEqDiff, not_false_eq_true, true_or, or_true, true_and]
          repeat' (first | exact True.intro | (refine ⟨fun hb => ?_, fun hb => ?_⟩ <;> first | (exfalso; omega; done) | exact absurd True.intro hb | ((conv => whnf); try simp only [gO, gWe, ne_eq, Nat.reduceEqDiff, not_false_eq_true, true_or, or_true, true_and])) | (refine ⟨by omega, ?_⟩; (conv => whnf); try simp only [gO, gWe, ne_eq, Nat.reduceEqDiff, not_false_eq_true, true_or, or_true, true_and]) | (refine ⟨fun hb => ?_, ?_⟩ <;> first | (exfalso; omega; done) | exact absurd True.intro hb | ((conv => whnf); try simp only [gO, gWe, ne_eq, Nat.reduceEqDiff, not_false_eq_true, true_or, or_true, true_and])) | fail)
          refine t_160 (by omega) kν.1.2.1 kν.2.2.1 (by omega) (by omega) ?_
          rw [f2]
          (conv => whnf); try simp only [gO, gWe, ne_eq, Nat.reduceEqDiff, not_false_eq_true, true_or, or_true, true_and]
          repeat' (first | exact True.intro | (refine ⟨fun hb => ?_, fun hb => ?_⟩ <;> first | (exfalso; omega; done) | exact absurd True.intro hb | ((conv => whnf); try simp only [gO, gWe, ne_eq, Nat.reduceEqDiff, not_false_eq_true, true_or, or_true, true_and])) | (refine ⟨by omega, ?_⟩; (conv => whnf); try simp only [gO, gWe, ne_eq, Nat.reduceEqDiff, not_false_eq_true, true_or, or_true, true_and]) | (refine ⟨fun hb => ?_, ?_⟩ <;> first | (exfalso; omega; done) | exact absurd True.intro hb | ((conv => whnf); try simp only [gO, gWe, ne_eq, Nat.reduceEqDiff, not_false_eq_true, true_or, or_true, true_and])) | fail)
          have hν' : gFr [62] μ (gW ν 62 (229 + k) (pkX μ sq y k)) := hν.W (by decide)
          have hl' : hSl μ (gW ν 62 (229 + k) (pkX μ sq y k)) := fun j hj => by rw [gWn _ _ _ (by omega)]; exact hl j hj
          have kν' := hl'.k hν' (by decide) (by decide) (by decide) hK
          have s1' : hSt μ (gW ν 62 (229 + k) (pkX μ sq y k)) := hν'.st (by decide)
          rw [gWn _ _ _ (show 169 + k ≠ 229 + k by omega), f3, ← s1' 20 (by decide) (by decide)]
          refine t_158 (by omega) kν'.1 kν'.2.1 rg.1 (by rw [s1' 19 (by decide) (by decide)]; exact rg.2) ?_
          rw [xWd_c s1']
          (conv => whnf); try simp only [gO, gWe, ne_eq, Nat.reduceEqDiff, not_false_eq_true, true_or, or_true, true_and]
          repeat' (first | exact True.intro | (refine ⟨fun hb => ?_, fun hb => ?_⟩ <;> first | (exfalso; omega; done) | exact absurd True.intro hb | ((conv => whnf); try simp only [gO, gWe, ne_eq, Nat.reduceEqDiff, not_false_eq_true, true_or, or_true, true_and])) | (refine ⟨by omega, ?_⟩; (conv => whnf); try simp only [gO, gWe, ne_eq, Nat.reduceEqDiff, not_false_eq_true, true_or, or_true, true_and]) | (refine ⟨fun hb => ?_, ?_⟩ <;> first | (exfalso; omega; done) | exact absurd True.intro hb | ((conv => whnf); try simp only [gO, gWe, ne_eq, Nat.reduceEqDiff, not_false_eq_true, true_or, or_true, true_and])) | fail)
          refine ihk _ hν' hl' (fun z j z0 z1 j0 j1 => ?_) (fun j j0 j1 => ?_)
          · have mz := iN_mon hG hL hN (y := z + 1) (z := y) (by omega) (by omega) (by omega)
            rw [gWn _ _ _ (by omega)]
            exact hp z j z0 z1 j0 j1
          · by_cases c : j = k
            · subst c; rw [gWe]
            · rw [gWn _ _ _ (by omega)]
              exact hq j j0 (by omega)
        · have kν := hl.k hν (by decide) (by decide) (by decide) hK
          have s1 : hSt μ ν := hν.st (by decide)
          have f9 : (ν 9 1) = (μ 9 1) := by rw [s1 9 (by decide) (by decide)]
          have f2 : (ν 23) (y + 1) = (μ 23) (y + 1) := by rw [s1 23 (by decide) (by decide)]
          refine gB_gG [2] 300 ?_
          (conv => whnf); try simp only [gO, gWe, ne_eq, Nat.reduceEqDiff, not_false_eq_true, true_or, or_true, true_and]
          repeat' (first | exact True.intro | (refine ⟨fun hb => ?_, fun hb => ?_⟩ <;> first | (exfalso; omega; done) | exact absurd True.intro hb | ((conv => whnf); try simp only [gO, gWe, ne_eq, Nat.reduceEqDiff, not_false_eq_true, true_or, or_true, true_and])) | (refine ⟨by omega, ?_⟩; (conv => whnf); try simp only [gO, gWe, ne_eq, Nat.reduceEqDiff, not_false_eq_true, true_or, or_true, true_and]) | (refine ⟨fun hb => ?_, ?_⟩ <;> first | (exfalso; omega; done) | exact absurd True.intro hb | ((conv => whnf); try simp only [gO, gWe, ne_eq, Nat.reduceEqDiff, not_false_eq_true, true_or, or_true, true_and])) | fail)
          refine t_160 (by omega) kν.1.2.1 kν.2.2.1 (by omega) (by omega) ?_
          rw [f2]
          (conv => whnf); try simp only [gO, gWe, ne_eq, Nat.reduceEqDiff, not_false_eq_true, true_or, or_true, true_and]
          repeat' (first | exact True.intro | (refine ⟨fun hb => ?_, fun hb => ?_⟩ <;> first | (exfalso; omega; done) | exact absurd True.intro hb | ((conv => whnf); try simp only [gO, gWe, ne_eq, Nat.reduceEqDiff, not_false_eq_true, true_or, or_true, true_and])) | (refine ⟨by omega, ?_⟩; (conv => whnf); try simp only [gO, gWe, ne_eq, Nat.reduceEqDiff, not_false_eq_true, true_or, or_true, true_and]) | (refine ⟨fun hb => ?_, ?_⟩ <;> first | (exfalso; omega; done) | exact absurd True.intro hb | ((conv => whnf); try simp only [gO, gWe, ne_eq, Nat.reduceEqDiff, not_false_eq_true, true_or, or_true, true_and])) | fail)
          refine ih ν _ _ hν hl (fun z k z0 z1 k0 k1 => ?_)
          by_cases c : z = y
          · subst c; exact hq k k0 k1
          · exact hp z k z0 (by omega) k0 k1
      have kν := hl.k hν (by decide) (by decide) (by decide) hK
      have s1 : hSt μ ν := hν.st (by decide)
      have f4 := kν.2.2.1.1.2
      have f9 : (ν 9 1) = (μ 9 1) := by rw [s1 9 (by decide) (by decide)]
      have f1 : (ν 23) y = (μ 23) y := by rw [s1 23 (by decide) (by decide)]
      refine gB_gG [20] 300 ?_
      (conv => whnf); try simp only [gO, gWe, ne_eq, Nat.reduceEqDiff, not_false_eq_true, true_or, or_true, true_and]
      repeat' (first | exact True.intro | (refine ⟨fun hb => ?_, fun hb => ?_⟩ <;> first | (exfalso; omega; done) | exact absurd True.intro hb | ((conv => whnf); try simp only [gO, gWe, ne_eq, Nat.reduceEqDiff, not_false_eq_true, true_or, or_true, true_and])) | (refine ⟨by omega, ?_⟩; (conv => whnf); try simp only [gO, gWe, ne_eq, Nat.reduceEqDiff, not_false_eq_true, true_or, or_true, true_and]) | (refine ⟨fun hb => ?_, ?_⟩ <;> first | (exfalso; omega; done) | exact absurd True.intro hb | ((conv => whnf); try simp only [gO, gWe, ne_eq, Nat.reduceEqDiff, not_false_eq_true, true_or, or_true, true_and])) | fail)
      refine t_160 (by omega) kν.1.2.1 kν.2.2.1 y0 (by omega) ?_
      rw [f1]
      (conv => whnf); try simp only [gO, gWe, ne_eq, Nat.reduceEqDiff, not_false_eq_true, true_or, or_true, true_and]
      have e : pkX μ sq y ((μ 23) y) = 0 := by unfold pkX; rw [show ((μ 23) y - (μ 23) y).toNat = 0 by omega]; rfl
      have z := inn ((μ 23) y) (by omega) (by omega) ν hν hl hp (fun j j0 j1 => by omega)
      rw [e] at z
      exact z
    · have kν := hl.k hν (by decide) (by decide) (by decide) hK
      have s1 : hSt μ ν := hν.st (by decide)
      have f4 := kν.2.2.1.1.2
      have f9 : (ν 9 1) = (μ 9 1) := by rw [s1 9 (by decide) (by decide)]
      refine gB_gG [] 300 ?_
      (conv => whnf); try simp only [gO, gWe, ne_eq, Nat.reduceEqDiff, not_false_eq_true, true_or, or_true, true_and]
      repeat' (first | exact True.intro | (refine ⟨fun hb => ?_, fun hb => ?_⟩ <;> first | (exfalso; omega; done) | exact absurd True.intro hb | ((conv => whnf); try simp only [gO, gWe, ne_eq, Nat.reduceEqDiff, not_false_eq_true, true_or, or_true, true_and])) | (refine ⟨by omega, ?_⟩; (conv => whnf); try simp only [gO, gWe, ne_eq, Nat.reduceEqDiff, not_false_eq_true, true_or, or_true, true_and]) | (refine ⟨fun hb => ?_, ?_⟩ <;> first | (exfalso; omega; done) | exact absurd True.intro hb | ((conv => whnf); try simp only [gO, gWe, ne_eq, Nat.reduceEqDiff, not_false_eq_true, true_or, or_true, true_and])) | fail)
      exact h ν hν hl (fun y k y0 y1 => hp y k y0 y1)
  exact out 0 (by omega) (by omega) μ _ _ gFr.rf (fun _ _ => rfl) (fun z k z0 z1 => by omega)
theorem t_185 {D : Nat} (hD : 8 ≤ D) {μ : MU} {Q : GQ} {sq pl sq0 : Int → Int} (hK : iK μ sq pl) (hb0 : ∀ k : Int, 0 ≤ k → k < (μ 19 2) → (μ 74) k = (μ 20) (sq0 k) ∧ 0 ≤ sq0 k ∧ sq0 k < (μ 19 2)) (h1 : (∀ k : Int, 0 ≤ k → k < (μ 19 2) → sq k = sq0 k) → ∀ ν : MU, gFr [72, 73] μ ν → Q (some (gI (xCa μ pl))) g_SH ν) (h0 : (¬ ∀ k : Int, 0 ≤ k → k < (μ 19 2) → sq k = sq0 k) → ∀ ν : MU, gFr [62, 72, 73] μ ν → hSl μ ν → (∀ y k : Int, 0 ≤ y → y < (μ 9 1) → (μ 23) y ≤ k → k < (μ 23) (y + 1) → ν 62 (229 + k) = pkX μ sq y k) → Q (some (gI (xCa μ pl))) g_SH ν) : gCall g_T g_F D 185 [gR 61] g_SH μ Q := by
  have hM := hK.1
  have hN := hK.2.1
  have hG := hM.1
  have hL := hM.2.1
  have hO := hK.2.2.2.1
  have V := hN.1
  have G := hG.1
  have S := hK.2.2.1.1.1
  obtain ⟨d, rfl⟩ := gD (show 1 ≤ D by omega)
  refine gC 300 [4] rfl ?_
  (conv => whnf); try simp only [gO, gWe, ne_eq, Nat.reduceEqDiff, not_false_eq_true, true_or, or_true, true_and]
  have key : ∀ k : Int, 0 ≤ k → k ≤ (μ 19 2) → ∀ b : Int, (b = 0 ∨ b = 1) → (b = 1 ↔ ∀ j : Int, 0 ≤ j → j < k → sq j = sq0 j) → gG g_T g_F (gCall g_T g_F d) 0 (fun _ => 0) (g_T 185) Q 4 [gR 61, gI b, gI k] [] g_SH μ 0 0 := by
    refine g_up (fun k k0 k1 ih b b01 hb1 => ?_) (fun b b01 hb1 => ?_)
    · have q := hK.2.2.2.2 k k0 k1
      have bq := hb0 k k0 k1
      have rg := (iO_k hG hL hN hO k0 k1).1
      by_cases c : b = 1
      · have old := hb1.mp c
        clear hb1 b01
        by_cases d : sq k = sq0 k
        · have e : (μ 20) (sq k) = (μ 20) (sq0 k) := by rw [d]
          have z := ih 1 (Or.inr rfl) ⟨fun _ j j0 j1 => by
            by_cases f : j = k
            · subst f; exact d
            · exact old j j0 (by omega), fun _ => rfl⟩
          refine gB_gG [4] 300 ?_
          (conv => whnf); try simp only [gO, gWe, ne_eq, Nat.reduceEqDiff, not_false_eq_true, true_or, or_true, true_and]
          repeat' (first | exact True.intro | (refine ⟨fun hb => ?_, fun hb => ?_⟩ <;> first | (exfalso; omega; done) | exact absurd True.intro hb | ((conv => whnf); try simp only [gO, gWe, ne_eq, Nat.reduceEqDiff, not_false_eq_true, true_or, or_true, true_and])) | (refine ⟨by omega, ?_⟩; (conv => whnf); try simp only [gO, gWe, ne_eq, Nat.reduceEqDiff, not_false_eq_true, true_or, or_true, true_and]) | (refine ⟨fun hb => ?_, ?_⟩ <;> first | (exfalso; omega; done) | exact absurd True.intro hb | ((conv => whnf); try simp only [gO, gWe, ne_eq, Nat.reduceEqDiff, not_false_eq_true, true_or, or_true, true_and])) | fail)
          exact z
        · have e : (μ 20) (sq k) ≠ (μ 20) (sq0 k) := fun hh => d (iN_inj hG hL hN rg.1 rg.2 bq.2.1 bq.2.2 hh)
          have z := ih 0 (Or.inl rfl) ⟨fun h => by omega, fun hh => absurd (hh k k0 (by omega)) d⟩
          refine gB_gG [4] 300 ?_
          (conv => whnf); try simp only [gO, gWe, ne_eq, Nat.reduceEqDiff, not_false_eq_true, true_or, or_true, true_and]
          repeat' (first | exact True.intro | (refine ⟨fun hb => ?_, fun hb => ?_⟩ <;> first | (exfalso; omega; done) | exact absurd True.intro hb | ((conv => whnf); try simp only [gO, gWe, ne_eq, Nat.reduceEqDiff, not_false_eq_true, true_or, or_true, true_and])) | (refine ⟨by omega, ?_⟩; (conv => whnf); try simp only [gO, gWe, ne_eq, Nat.reduceEqDiff, not_false_eq_true, true_or, or_true, true_and]) | (refine ⟨fun hb => ?_, ?_⟩ <;> first | (exfalso; omega; done) | exact absurd True.intro hb | ((conv => whnf); try simp only [gO, gWe, ne_eq, Nat.reduceEqDiff, not_false_eq_true, true_or, or_true, true_and])) | fail)
          exact z
      · have old : ¬ ∀ j : Int, 0 ≤ j → j < k → sq j = sq0 j := fun hh => c (hb1.mpr hh)
        have b0 : b = 0 := by omega
        clear hb1 b01
        have z := ih 0 (Or.inl rfl) ⟨fun h => by omega, fun hh => absurd (fun j j0 j1 => hh j j0 (by omega)) old⟩
        refine gB_gG [4] 300 ?_
        (conv => whnf); try simp only [gO, gWe, ne_eq, Nat.reduceEqDiff, not_false_eq_true, true_or, or_true, true_and]
        repeat' (first | exact True.intro | (refine ⟨fun hb => ?_, fun hb => ?_⟩ <;> first | (exfalso; omega; done) | exact absurd True.intro hb | ((conv => whnf); try simp only [gO, gWe, ne_eq, Nat.reduceEqDiff, not_false_eq_true, true_or, or_true, true_and])) | (refine ⟨by omega, ?_⟩; (conv => whnf); try simp only [gO, gWe, ne_eq, Nat.reduceEqDiff, not_false_eq_true, true_or, or_true, true_and]) | (refine ⟨fun hb => ?_, ?_⟩ <;> first | (exfalso; omega; done) | exact absurd True.intro hb | ((conv => whnf); try simp only [gO, gWe, ne_eq, Nat.reduceEqDiff, not_false_eq_true, true_or, or_true, true_and])) | fail)
        exact z
    · by_cases c : b = 1
      · have old := hb1.mp c
        clear hb1 b01
        refine gB_gG [] 300 ?_
        (conv => whnf); try simp only [gO, gWe, ne_eq, Nat.reduceEqDiff, not_false_eq_true, true_or, or_true, true_and]
        repeat' (first | exact True.intro | (refine ⟨fun hb => ?_, fun hb => ?_⟩ <;> first | (exfalso; omega; done) | exact absurd True.intro hb | ((conv => whnf); try simp only [gO, gWe, ne_eq, Nat.reduceEqDiff, not_false_eq_true, true_or, or_true, true_and])) | (refine ⟨by omega, ?_⟩; (conv => whnf); try simp only [gO, gWe, ne_eq, Nat.reduceEqDiff, not_false_eq_true, true_or, or_true, true_and]) | (refine ⟨fun hb => ?_, ?_⟩ <;> first | (exfalso; omega; done) | exact absurd True.intro hb | ((conv => whnf); try simp only [gO, gWe, ne_eq, Nat.reduceEqDiff, not_false_eq_true, true_or, or_true, true_and])) | fail)
        refine t_180 (by omega) hK (fun ρ hρ => ?_)
        exact h1 old ρ hρ
      · have old : ¬ ∀ j : Int, 0 ≤ j → j < (μ 19 2) → sq j = sq0 j := fun hh => c (hb1.mpr hh)
        have b0 : b = 0 := by omega
        clear hb1 b01
        refine gB_gG [] 300 ?_
        (conv => whnf); try simp only [gO, gWe, ne_eq, Nat.reduceEqDiff, not_false_eq_true, true_or, or_true, true_and]
        repeat' (first | exact True.intro | (refine ⟨fun hb => ?_, fun hb => ?_⟩ <;> first | (exfalso; omega; done) | exact absurd True.intro hb | ((conv => whnf); try simp only [gO, gWe, ne_eq, Nat.reduceEqDiff, not_false_eq_true, true_or, or_true, true_and])) | (refine ⟨by omega, ?_⟩; (conv => whnf); try simp only [gO, gWe, ne_eq, Nat.reduceEqDiff, not_false_eq_true, true_or, or_true, true_and]) | (refine ⟨fun hb => ?_, ?_⟩ <;> first | (exfalso; omega; done) | exact absurd True.intro hb | ((conv => whnf); try simp only [gO, gWe, ne_eq, Nat.reduceEqDiff, not_false_eq_true, true_or, or_true, true_and])) | fail)
        refine t_198 (by omega) hK (fun ν hν hl hp => ?_)
        have kν := hl.k hν (by decide) (by decide) (by decide) hK
        (conv => whnf); try simp only [gO, gWe, ne_eq, Nat.reduceEqDiff, not_false_eq_true, true_or, or_true, true_and]
        refine t_180 (by omega) kν (fun ρ hρ => ?_)
        rw [xCa_c (hν.st (by decide))]
        have e : ρ 62 = ν 62 := hρ 62 (by decide)
        exact h0 old ρ ((hν.mo (by decide)).tr (hρ.mo (by decide))) (fun j hj => by rw [e]; exact hl j hj) (fun y k y0 y1 k0 k1 => by rw [e]; exact hp y k y0 y1 k0 k1)
  exact key 0 (by omega) (by omega) 1 (Or.inr rfl) ⟨fun _ j j0 j1 => by omega, fun _ => rfl⟩
