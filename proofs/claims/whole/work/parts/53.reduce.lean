/-! the cases reduce and exchange -/
theorem t_196 {D : Nat} (hD : 13 ≤ D) {μ ν : MU} {Q : GQ} {r : Int} (hA : iAll μ) (l1 : (μ 0 6) = 1) (hν : gFr [24, 25, 26, 27, 28, 29, 30, 31, 32, 34, 35] μ ν) (r0 : 1 ≤ r) (r1 : r ≤ 6)
    (h : ∀ (d : Nat) (ρ : MU) (Q' : GQ), 9 ≤ d → gFr [61, 62, 66, 67, 68, 69, 70, 71, 72, 73, 74, 75, 76, 77, 78, 79, 80] ν ρ → (∀ j : Int, j ≠ 5 → ρ 61 j = μ 61 j) → (ρ 61 5) = 1 → (∀ k : Int, (k < 169 ∨ 229 ≤ k) → ρ 62 k = μ 62 k) → iM ρ → iDs ρ → (∀ k : Int, 0 ≤ k → k < (μ 19 2) → ρ 62 (169 + k) = (μ 20) ((imp μ ((μ 24), (μ 25)) r.toNat).2.1 k)) → (∀ k : Int, 0 ≤ k → k < (μ 19 2) → (ρ 74) k = (μ 20) ((μ 24) k)) → (∀ v τ, Q (some (gI v)) g_SH τ → Q' (some (gI v)) g_SH τ) → gCall g_T g_F d 185 [gR 61] g_SH ρ Q') : gCall g_T g_F D 196 [gR 61, gI r] g_SH ν Q := by
  have hG := hA.1.1
  have hL := hA.1.2.1
  obtain ⟨hN, hO, hC, hX⟩ := hA.1.2.2.2 l1
  have ml := hA.2.1.2.1
  have G := hG.1
  have V := hN.1
  have L := hL.2.2.2.1
  have hOC : iOC μ ((μ 24), (μ 25)) := ⟨hO, hC⟩
  have iO2 := imp_O hG hL hN hOC
  have m4 : (ν 62 2) = 1 := by rw [hν 62 (by decide)]; omega
  obtain ⟨d, rfl⟩ := gD (show 1 ≤ D by omega)
  refine gC 300 [51] rfl ?_
  (conv => whnf); try simp only [gO, gWe, ne_eq, Nat.reduceEqDiff, not_false_eq_true, true_or, or_true, true_and]
  repeat' (first | exact True.intro | (refine ⟨fun hb => ?_, fun hb => ?_⟩ <;> first | (exfalso; omega; done) | exact absurd True.intro hb | ((conv => whnf); try simp only [gO, gWe, ne_eq, Nat.reduceEqDiff, not_false_eq_true, true_or, or_true, true_and])) | (refine ⟨by omega, ?_⟩; (conv => whnf); try simp only [gO, gWe, ne_eq, Nat.reduceEqDiff, not_false_eq_true, true_or, or_true, true_and]) | (refine ⟨fun hb => ?_, ?_⟩ <;> first | (exfalso; omega; done) | exact absurd True.intro hb | ((conv => whnf); try simp only [gO, gWe, ne_eq, Nat.reduceEqDiff, not_false_eq_true, true_or, or_true, true_and])) | fail)
  refine t_125 (by omega) (fun _ => ?_) (fun c => by omega)
  (conv => whnf); try simp only [gO, gWe, ne_eq, Nat.reduceEqDiff, not_false_eq_true, true_or, or_true, true_and]
  repeat' (first | exact True.intro | (refine ⟨fun hb => ?_, fun hb => ?_⟩ <;> first | (exfalso; omega; done) | exact absurd True.intro hb | ((conv => whnf); try simp only [gO, gWe, ne_eq, Nat.reduceEqDiff, not_false_eq_true, true_or, or_true, true_and])) | (refine ⟨by omega, ?_⟩; (conv => whnf); try simp only [gO, gWe, ne_eq, Nat.reduceEqDiff, not_false_eq_true, true_or, or_true, true_and]) | (refine ⟨fun hb => ?_, ?_⟩ <;> first | (exfalso; omega; done) | exact absurd True.intro hb | ((conv => whnf); try simp only [gO, gWe, ne_eq, Nat.reduceEqDiff, not_false_eq_true, true_or, or_true, true_and])) | fail)
  refine m_begin (by omega) hA l1 hν (fun ρ hρ h61 hf hK => ?_)
  have sρ : hSt μ ρ := (hν.st (by decide)).tr (hρ.st (by decide))
  (conv => whnf); try simp only [gO, gWe, ne_eq, Nat.reduceEqDiff, not_false_eq_true, true_or, or_true, true_and]
  repeat' (first | exact True.intro | (refine ⟨fun hb => ?_, fun hb => ?_⟩ <;> first | (exfalso; omega; done) | exact absurd True.intro hb | ((conv => whnf); try simp only [gO, gWe, ne_eq, Nat.reduceEqDiff, not_false_eq_true, true_or, or_true, true_and])) | (refine ⟨by omega, ?_⟩; (conv => whnf); try simp only [gO, gWe, ne_eq, Nat.reduceEqDiff, not_false_eq_true, true_or, or_true, true_and]) | (refine ⟨fun hb => ?_, ?_⟩ <;> first | (exfalso; omega; done) | exact absurd True.intro hb | ((conv => whnf); try simp only [gO, gWe, ne_eq, Nat.reduceEqDiff, not_false_eq_true, true_or, or_true, true_and])) | fail)
  refine m_rem (by omega) sρ hK (fun ρ₁ hρ₁ hK1 hbf => ?_)
  have sρ₁ : hSt μ ρ₁ := sρ.tr (hρ₁.st (by decide))
  (conv => whnf); try simp only [gO, gWe, ne_eq, Nat.reduceEqDiff, not_false_eq_true, true_or, or_true, true_and]
  repeat' (first | exact True.intro | (refine ⟨fun hb => ?_, fun hb => ?_⟩ <;> first | (exfalso; omega; done) | exact absurd True.intro hb | ((conv => whnf); try simp only [gO, gWe, ne_eq, Nat.reduceEqDiff, not_false_eq_true, true_or, or_true, true_and])) | (refine ⟨by omega, ?_⟩; (conv => whnf); try simp only [gO, gWe, ne_eq, Nat.reduceEqDiff, not_false_eq_true, true_or, or_true, true_and]) | (refine ⟨fun hb => ?_, ?_⟩ <;> first | (exfalso; omega; done) | exact absurd True.intro hb | ((conv => whnf); try simp only [gO, gWe, ne_eq, Nat.reduceEqDiff, not_false_eq_true, true_or, or_true, true_and])) | fail)
  refine t_184_75 (by omega) ⟨hK1.2.2.1.1.1, by rw [sρ₁ 19 (by decide) (by decide)]; omega⟩ (fun ρ₂ hρ₂ hbs => ?_)
  have sρ₂ : hSt μ ρ₂ := sρ₁.tr (hρ₂.st (by decide))
  have hK2 := iK_c (hρ₂.st (by decide)) (hρ₂.sm (by decide) (by decide) (by decide)) (hρ₂ 62 (by decide)) hK1
  (conv => whnf); try simp only [gO, gWe, ne_eq, Nat.reduceEqDiff, not_false_eq_true, true_or, or_true, true_and]
  repeat' (first | exact True.intro | (refine ⟨fun hb => ?_, fun hb => ?_⟩ <;> first | (exfalso; omega; done) | exact absurd True.intro hb | ((conv => whnf); try simp only [gO, gWe, ne_eq, Nat.reduceEqDiff, not_false_eq_true, true_or, or_true, true_and])) | (refine ⟨by omega, ?_⟩; (conv => whnf); try simp only [gO, gWe, ne_eq, Nat.reduceEqDiff, not_false_eq_true, true_or, or_true, true_and]) | (refine ⟨fun hb => ?_, ?_⟩ <;> first | (exfalso; omega; done) | exact absurd True.intro hb | ((conv => whnf); try simp only [gO, gWe, ne_eq, Nat.reduceEqDiff, not_false_eq_true, true_or, or_true, true_and])) | fail)
  refine t_180 (by omega) hK2 (fun ρ₃ hρ₃ => ?_)
  rw [xCa_c sρ₂]
  have sρ₃ : hSt μ ρ₃ := sρ₂.tr (hρ₃.st (by decide))
  have hK3 := iK_c (hρ₃.st (by decide)) (hρ₃.sm (by decide) (by decide) (by decide)) (hρ₃ 62 (by decide)) hK2
  have f03 : gFr [71, 72, 73, 74, 75, 76, 77] ρ ρ₃ := (hρ₁.mo (by decide)).tr ((hρ₂.mo (by decide)).tr (hρ₃.mo (by decide)))
  have b3 : ∀ k : Int, 0 ≤ k → k < (μ 19 2) → (ρ₃ 75) k = (μ 20) ((μ 24) k) := fun k k0 k1 => by
    have e := hbs k k0 (by rw [sρ₁ 19 (by decide) (by decide)]; exact k1)
    rw [hρ₃ 75 (by decide), e, hK1.2.2.2.2 k k0 (by rw [sρ₁ 19 (by decide) (by decide)]; exact k1), sρ₁ 20 (by decide) (by decide)]
  have bf3 : ∀ k : Int, 0 ≤ k → k < (μ 19 2) → (ρ₃ 74) k = (μ 20) ((μ 24) k) := fun k k0 k1 => by
    rw [hρ₃ 74 (by decide), hρ₂ 74 (by decide)]; exact hbf k k0 k1
  have o62 : ρ₃ 62 = μ 62 := by rw [f03 62 (by decide), hρ 62 (by decide), hν 62 (by decide)]
  have fin2 : ∀ k : Int, 0 ≤ k → k ≤ (μ 19 2) → ∀ (τ : MU) (w : GO) (x : Int) (y : GV), gFr [62, 71, 72, 73, 75, 76, 77] ρ₃ τ → hSo ρ₃ τ → iOC μ w → (imp μ ((μ 24), (μ 25)) r.toNat).2 = w → (∀ j : Int, 0 ≤ j → j < (μ 19 2) → (τ 75) j = (μ 20) (w.1 j)) → (∀ j : Int, 0 ≤ j → j < k → τ 62 (169 + j) = (μ 20) (w.1 j)) → gG g_T g_F (gCall g_T g_F d) 0 (fun _ => 0) (g_T 196) Q 101 [gR 61, gI r, gI x, gI k, y] [] g_SH τ 0 0 := by
    refine g_up (fun k k0 k1 ih τ w x y hτ hso hw he hb1 hk => ?_) (fun τ w x y hτ hso hw he hb1 hk => ?_)
    · have z3 : τ 62 3 = (μ 19 2) := by
        rw [hso 3 (by omega)]
        have := hK3.2.2.1.1.1
        rw [sρ₃ 19 (by decide) (by decide)] at this
        exact this
      have nx : gG g_T g_F (gCall g_T g_F d) 0 (fun _ => 0) (g_T 196) Q 101 [gR 61, gI r, gI x, gI (k + 1), y] [] g_SH (gW τ 62 (169 + k) ((τ 75) k)) 0 0 := by
        refine ih _ w x y (hτ.W (by decide)) (fun j hj => ?_) hw he hb1 (fun j j0 j1 => ?_)
        · rw [gWn _ _ _ (show j ≠ 169 + k by omega)]; exact hso j hj
        · by_cases hc : j = k
          · rw [hc, gWe]; exact hb1 k k0 k1
          · rw [gWn _ _ _ (show (169 : Int) + j ≠ 169 + k by omega)]; exact hk j j0 (by omega)
      clear ih hb1 hk he
      refine gB_gG [101] 300 ?_
      (conv => whnf); try simp only [gO, gWe, ne_eq, Nat.reduceEqDiff, not_false_eq_true, true_or, or_true, true_and]
      repeat' (first | exact True.intro | (refine ⟨fun hb => ?_, fun hb => ?_⟩ <;> first | (exfalso; omega; done) | exact absurd True.intro hb | ((conv => whnf); try simp only [gO, gWe, ne_eq, Nat.reduceEqDiff, not_false_eq_true, true_or, or_true, true_and])) | (refine ⟨by omega, ?_⟩; (conv => whnf); try simp only [gO, gWe, ne_eq, Nat.reduceEqDiff, not_false_eq_true, true_or, or_true, true_and]) | (refine ⟨fun hb => ?_, ?_⟩ <;> first | (exfalso; omega; done) | exact absurd True.intro hb | ((conv => whnf); try simp only [gO, gWe, ne_eq, Nat.reduceEqDiff, not_false_eq_true, true_or, or_true, true_and])) | fail)
      exact nx
    · have z3 : τ 62 3 = (μ 19 2) := by
        rw [hso 3 (by omega)]
        have := hK3.2.2.1.1.1
        rw [sρ₃ 19 (by decide) (by decide)] at this
        exact this
      have sm : hSm ρ₃ τ := ⟨hτ 66 (by decide), hτ 67 (by decide), fun k _ _ => hso k (by omega)⟩
      have sτ : hSt ρ₃ τ := hτ.st (by decide)
      have iMτ : iM τ := iM_c sτ sm hK3.1
      have iDτ : iDs τ := iDs_c sτ sm hK3.1.2.1 hK3.2.2.1
      have f := fun (Q' : GQ) => h d τ Q' (by omega) ((hρ.mo (by decide)).tr ((f03.mo (by decide)).tr (hτ.mo (by decide)))) (fun j hj => by rw [hτ 61 (by decide), f03 61 (by decide)]; exact h61 j hj) (by rw [hτ 61 (by decide), f03 61 (by decide)]; exact hf) (fun k hk => by rw [hso k hk, o62]) iMτ iDτ (by rw [he]; exact hk) (fun k k0 k1 => by rw [hτ 74 (by decide)]; exact bf3 k k0 k1)
      clear hb1 hk he h
      refine gB_gG [101] 300 ?_
      (conv => whnf); try simp only [gO, gWe, ne_eq, Nat.reduceEqDiff, not_false_eq_true, true_or, or_true, true_and]
      repeat' (first | exact True.intro | (refine ⟨fun hb => ?_, fun hb => ?_⟩ <;> first | (exfalso; omega; done) | exact absurd True.intro hb | ((conv => whnf); try simp only [gO, gWe, ne_eq, Nat.reduceEqDiff, not_false_eq_true, true_or, or_true, true_and])) | (refine ⟨by omega, ?_⟩; (conv => whnf); try simp only [gO, gWe, ne_eq, Nat.reduceEqDiff, not_false_eq_true, true_or, or_true, true_and]) | (refine ⟨fun hb => ?_, ?_⟩ <;> first | (exfalso; omega; done) | exact absurd True.intro hb | ((conv => whnf); try simp only [gO, gWe, ne_eq, Nat.reduceEqDiff, not_false_eq_true, true_or, or_true, true_and])) | fail)
      refine f _ (fun v τ hq => ?_)
      (conv => whnf); try simp only [gO, gWe, ne_eq, Nat.reduceEqDiff, not_false_eq_true, true_or, or_true, true_and]
      repeat' (first | exact True.intro | (refine ⟨fun hb => ?_, fun hb => ?_⟩ <;> first | (exfalso; omega; done) | exact absurd True.intro hb | ((conv => whnf); try simp only [gO, gWe, ne_eq, Nat.reduceEqDiff, not_false_eq_true, true_or, or_true, true_and])) | (refine ⟨by omega, ?_⟩; (conv => whnf); try simp only [gO, gWe, ne_eq, Nat.reduceEqDiff, not_false_eq_true, true_or, or_true, true_and]) | (refine ⟨fun hb => ?_, ?_⟩ <;> first | (exfalso; omega; done) | exact absurd True.intro hb | ((conv => whnf); try simp only [gO, gWe, ne_eq, Nat.reduceEqDiff, not_false_eq_true, true_or, or_true, true_and])) | fail)
      exact hq
  have key : ∀ k : Int, 0 ≤ k → k ≤ r → ∀ (τ : MU) (w : GO × GO) (x : GV), gFr [62, 71, 72, 73, 75, 76, 77] ρ₃ τ → hSo ρ₃ τ → imp μ ((μ 24), (μ 25)) k.toNat = w → iK τ w.1.1 w.1.2 → (∀ j : Int, 0 ≤ j → j < (μ 19 2) → (τ 75) j = (μ 20) (w.2.1 j)) → gG g_T g_F (gCall g_T g_F d) 0 (fun _ => 0) (g_T 196) Q 51 [gR 61, gI r, gI (xCa μ w.2.2), gI k, x] [] g_SH τ 0 0 := by
    refine g_up (fun k k0 k1 ih τ w x hτ hso he hKτ hb1 => ?_) (fun τ w x hτ hso he hKτ hb1 => ?_)
    · have o := iO2 k.toNat
      rw [show (k + 1).toNat = k.toNat + 1 by omega] at ih
      unfold imp at ih
      rw [he] at o ih
      have sτ : hSt μ τ := sρ₃.tr (hτ.st (by decide))
      have o1 := swpA_o hG hL hN o.1 1
      have o2 := swpA_o hG hL hN o1 0
      have o3 := sfA_O hG hL hN o2 (μ 9 1).toNat
      have cl : ∀ (s : GO) (ω : MU), hSt μ ω → iOC μ s → ∀ z : Int, 0 ≤ z → z < ω 9 1 → iC ω s.1 z := fun s ω hω hs z z0 z1 => by
        rw [hω 9 (by decide) (by decide)] at z1
        exact iC_c hω (hs.2 z z0 z1)
      clear h fin2
      refine gB_gG [51] 300 ?_
      (conv => whnf); try simp only [gO, gWe, ne_eq, Nat.reduceEqDiff, not_false_eq_true, true_or, or_true, true_and]
      repeat' (first | exact True.intro | (refine ⟨fun hb => ?_, fun hb => ?_⟩ <;> first | (exfalso; omega; done) | exact absurd True.intro hb | ((conv => whnf); try simp only [gO, gWe, ne_eq, Nat.reduceEqDiff, not_false_eq_true, true_or, or_true, true_and])) | (refine ⟨by omega, ?_⟩; (conv => whnf); try simp only [gO, gWe, ne_eq, Nat.reduceEqDiff, not_false_eq_true, true_or, or_true, true_and]) | (refine ⟨fun hb => ?_, ?_⟩ <;> first | (exfalso; omega; done) | exact absurd True.intro hb | ((conv => whnf); try simp only [gO, gWe, ne_eq, Nat.reduceEqDiff, not_false_eq_true, true_or, or_true, true_and])) | fail)
      refine t_189 (by omega) hKτ (Or.inr rfl) (cl _ τ sτ o.1) (fun τ₁ h1 so1 hK1' => ?_)
      rw [swpA_c sτ] at hK1'
      have s1 : hSt μ τ₁ := sτ.tr (h1.st (by decide))
      (conv => whnf); try simp only [gO, gWe, ne_eq, Nat.reduceEqDiff, not_false_eq_true, true_or, or_true, true_and]
      repeat' (first | exact True.intro | (refine ⟨fun hb => ?_, fun hb => ?_⟩ <;> first | (exfalso; omega; done) | exact absurd True.intro hb | ((conv => whnf); try simp only [gO, gWe, ne_eq, Nat.reduceEqDiff, not_false_eq_true, true_or, or_true, true_and])) | (refine ⟨by omega, ?_⟩; (conv => whnf); try simp only [gO, gWe, ne_eq, Nat.reduceEqDiff, not_false_eq_true, true_or, or_true, true_and]) | (refine ⟨fun hb => ?_, ?_⟩ <;> first | (exfalso; omega; done) | exact absurd True.intro hb | ((conv => whnf); try simp only [gO, gWe, ne_eq, Nat.reduceEqDiff, not_false_eq_true, true_or, or_true, true_and])) | fail)
      refine t_189 (by omega) hK1' (Or.inl rfl) (cl _ τ₁ s1 o1) (fun τ₂ h2 so2 hK2' => ?_)
      rw [swpA_c s1] at hK2'
      have s2 : hSt μ τ₂ := s1.tr (h2.st (by decide))
      (conv => whnf); try simp only [gO, gWe, ne_eq, Nat.reduceEqDiff, not_false_eq_true, true_or, or_true, true_and]
      repeat' (first | exact True.intro | (refine ⟨fun hb => ?_, fun hb => ?_⟩ <;> first | (exfalso; omega; done) | exact absurd True.intro hb | ((conv => whnf); try simp only [gO, gWe, ne_eq, Nat.reduceEqDiff, not_false_eq_true, true_or, or_true, true_and])) | (refine ⟨by omega, ?_⟩; (conv => whnf); try simp only [gO, gWe, ne_eq, Nat.reduceEqDiff, not_false_eq_true, true_or, or_true, true_and]) | (refine ⟨fun hb => ?_, ?_⟩ <;> first | (exfalso; omega; done) | exact absurd True.intro hb | ((conv => whnf); try simp only [gO, gWe, ne_eq, Nat.reduceEqDiff, not_false_eq_true, true_or, or_true, true_and])) | fail)
      refine t_194 (by omega) (s := swpA μ 0 (swpA μ 1 w.1)) hK2' (cl _ τ₂ s2 o2) (fun τ₃ h3 so3 hK3' => ?_)
      rw [sfA_c s2, s2 9 (by decide) (by decide)] at hK3'
      have s3 : hSt μ τ₃ := s2.tr (h3.st (by decide))
      generalize sfA μ (swpA μ 0 (swpA μ 1 w.1)) (μ 9 1).toNat = t at *
      (conv => whnf); try simp only [gO, gWe, ne_eq, Nat.reduceEqDiff, not_false_eq_true, true_or, or_true, true_and]
      repeat' (first | exact True.intro | (refine ⟨fun hb => ?_, fun hb => ?_⟩ <;> first | (exfalso; omega; done) | exact absurd True.intro hb | ((conv => whnf); try simp only [gO, gWe, ne_eq, Nat.reduceEqDiff, not_false_eq_true, true_or, or_true, true_and])) | (refine ⟨by omega, ?_⟩; (conv => whnf); try simp only [gO, gWe, ne_eq, Nat.reduceEqDiff, not_false_eq_true, true_or, or_true, true_and]) | (refine ⟨fun hb => ?_, ?_⟩ <;> first | (exfalso; omega; done) | exact absurd True.intro hb | ((conv => whnf); try simp only [gO, gWe, ne_eq, Nat.reduceEqDiff, not_false_eq_true, true_or, or_true, true_and])) | fail)
      refine t_180 (by omega) hK3' (fun τ₄ h4 => ?_)
      rw [xCa_c s3]
      have s4 : hSt μ τ₄ := s3.tr (h4.st (by decide))
      have hK4 := iK_c (h4.st (by decide)) (h4.sm (by decide) (by decide) (by decide)) (h4 62 (by decide)) hK3'
      have fr : gFr [62, 71, 72, 73, 75, 76, 77] ρ₃ τ₄ := hτ.tr ((h1.mo (by decide)).tr ((h2.mo (by decide)).tr ((h3.mo (by decide)).tr (h4.mo (by decide)))))
      have so : hSo ρ₃ τ₄ := hso.tr (so1.tr (so2.tr (so3.tr (hSo.fr h4 (by decide)))))
      have eb : (τ₄ 75) = (τ 75) := by rw [h4 75 (by decide), h3 75 (by decide), h2 75 (by decide), h1 75 (by decide)]
      by_cases c : xCa μ t.2 < xCa μ w.2.2
      · rw [if_pos c] at ih
        clear hb1
        (conv => whnf); try simp only [gO, gWe, ne_eq, Nat.reduceEqDiff, not_false_eq_true, true_or, or_true, true_and]
        repeat' (first | exact True.intro | (refine ⟨fun hb => ?_, fun hb => ?_⟩ <;> first | (exfalso; omega; done) | exact absurd True.intro hb | ((conv => whnf); try simp only [gO, gWe, ne_eq, Nat.reduceEqDiff, not_false_eq_true, true_or, or_true, true_and])) | (refine ⟨by omega, ?_⟩; (conv => whnf); try simp only [gO, gWe, ne_eq, Nat.reduceEqDiff, not_false_eq_true, true_or, or_true, true_and]) | (refine ⟨fun hb => ?_, ?_⟩ <;> first | (exfalso; omega; done) | exact absurd True.intro hb | ((conv => whnf); try simp only [gO, gWe, ne_eq, Nat.reduceEqDiff, not_false_eq_true, true_or, or_true, true_and])) | fail)
        refine t_184_75 (by omega) ⟨hK4.2.2.1.1.1, by rw [s4 19 (by decide) (by decide)]; omega⟩ (fun τ₅ h5 hbs => ?_)
        have i := ih τ₅ _ (gI (xCa μ t.2)) (fr.tr (h5.mo (by decide))) (so.tr (hSo.fr h5 (by decide))) rfl (iK_c (h5.st (by decide)) (h5.sm (by decide) (by decide) (by decide)) (h5 62 (by decide)) hK4) (fun j j0 j1 => by
          have e := hbs j j0 (by rw [s4 19 (by decide) (by decide)]; exact j1)
          rw [e, hK4.2.2.2.2 j j0 (by rw [s4 19 (by decide) (by decide)]; exact j1), s4 20 (by decide) (by decide)])
        clear ih
        (conv => whnf); try simp only [gO, gWe, ne_eq, Nat.reduceEqDiff, not_false_eq_true, true_or, or_true, true_and]
        repeat' (first | exact True.intro | (refine ⟨fun hb => ?_, fun hb => ?_⟩ <;> first | (exfalso; omega; done) | exact absurd True.intro hb | ((conv => whnf); try simp only [gO, gWe, ne_eq, Nat.reduceEqDiff, not_false_eq_true, true_or, or_true, true_and])) | (refine ⟨by omega, ?_⟩; (conv => whnf); try simp only [gO, gWe, ne_eq, Nat.reduceEqDiff, not_false_eq_true, true_or, or_true, true_and]) | (refine ⟨fun hb => ?_, ?_⟩ <;> first | (exfalso; omega; done) | exact absurd True.intro hb | ((conv => whnf); try simp only [gO, gWe, ne_eq, Nat.reduceEqDiff, not_false_eq_true, true_or, or_true, true_and])) | fail)
        exact i
      · rw [if_neg c] at ih
        have i := ih τ₄ _ (gI (xCa μ t.2)) fr so rfl hK4 (fun j j0 j1 => by rw [eb]; exact hb1 j j0 j1)
        clear ih hb1
        (conv => whnf); try simp only [gO, gWe, ne_eq, Nat.reduceEqDiff, not_false_eq_true, true_or, or_true, true_and]
        repeat' (first | exact True.intro | (refine ⟨fun hb => ?_, fun hb => ?_⟩ <;> first | (exfalso; omega; done) | exact absurd True.intro hb | ((conv => whnf); try simp only [gO, gWe, ne_eq, Nat.reduceEqDiff, not_false_eq_true, true_or, or_true, true_and])) | (refine ⟨by omega, ?_⟩; (conv => whnf); try simp only [gO, gWe, ne_eq, Nat.reduceEqDiff, not_false_eq_true, true_or, or_true, true_and]) | (refine ⟨fun hb => ?_, ?_⟩ <;> first | (exfalso; omega; done) | exact absurd True.intro hb | ((conv => whnf); try simp only [gO, gWe, ne_eq, Nat.reduceEqDiff, not_false_eq_true, true_or, or_true, true_and])) | fail)
        exact i
    · have o := iO2 r.toNat
      have nx := fin2 0 (by omega) (by omega) τ w.2 (xCa μ w.2.2) x hτ hso (by rw [he] at o; exact o.2) (by rw [he]) hb1 (fun j _ _ => by omega)
      clear hb1 he fin2 h
      refine gB_gG [51,101] 300 ?_
      (conv => whnf); try simp only [gO, gWe, ne_eq, Nat.reduceEqDiff, not_false_eq_true, true_or, or_true, true_and]
      repeat' (first | exact True.intro | (refine ⟨fun hb => ?_, fun hb => ?_⟩ <;> first | (exfalso; omega; done) | exact absurd True.intro hb | ((conv => whnf); try simp only [gO, gWe, ne_eq, Nat.reduceEqDiff, not_false_eq_true, true_or, or_true, true_and])) | (refine ⟨by omega, ?_⟩; (conv => whnf); try simp only [gO, gWe, ne_eq, Nat.reduceEqDiff, not_false_eq_true, true_or, or_true, true_and]) | (refine ⟨fun hb => ?_, ?_⟩ <;> first | (exfalso; omega; done) | exact absurd True.intro hb | ((conv => whnf); try simp only [gO, gWe, ne_eq, Nat.reduceEqDiff, not_false_eq_true, true_or, or_true, true_and])) | fail)
      exact nx
  (conv => whnf); try simp only [gO, gWe, ne_eq, Nat.reduceEqDiff, not_false_eq_true, true_or, or_true, true_and]
  repeat' (first | exact True.intro | (refine ⟨fun hb => ?_, fun hb => ?_⟩ <;> first | (exfalso; omega; done) | exact absurd True.intro hb | ((conv => whnf); try simp only [gO, gWe, ne_eq, Nat.reduceEqDiff, not_false_eq_true, true_or, or_true, true_and])) | (refine ⟨by omega, ?_⟩; (conv => whnf); try simp only [gO, gWe, ne_eq, Nat.reduceEqDiff, not_false_eq_true, true_or, or_true, true_and]) | (refine ⟨fun hb => ?_, ?_⟩ <;> first | (exfalso; omega; done) | exact absurd True.intro hb | ((conv => whnf); try simp only [gO, gWe, ne_eq, Nat.reduceEqDiff, not_false_eq_true, true_or, or_true, true_and])) | fail)
  exact key 0 (by omega) (by omega) ρ₃ (((μ 24), (μ 25)), ((μ 24), (μ 25))) _ gFr.rf hSo.rf rfl hK3 b3
