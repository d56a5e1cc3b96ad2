/-! the order has changed: what the class and the model do then -/
theorem t_117 {D : Nat} (hD : 3 ≤ D) {μ : MU} {Q : GQ} (hH0 : iH μ) (k0 : (∀ k : Int, 0 ≤ k → k < (μ 19 2) → (μ 24) k = (μ 26) k) → Q none g_SH μ) (k1 : (¬ ∀ k : Int, 0 ≤ k → k < (μ 19 2) → (μ 24) k = (μ 26) k) → ∀ ν : MU, gFr [34] μ ν → (∀ y k : Int, 0 ≤ y → y < (μ 9 1) → (μ 23) y ≤ k → k < (μ 23) (y + 1) → (ν 34) ((μ 24) k) = pkX μ (μ 24) y k) → Q none g_SH ν) : gCall g_T g_F D 117 [gR 0] g_SH μ Q := by
  have V := hH0.2.2.1.1
  have G := hH0.1.1
  obtain ⟨d, rfl⟩ := gD (show 1 ≤ D by omega)
  refine gC 300 [] rfl ?_
  (conv => whnf); try simp only [gO, gWe, ne_eq, Nat.reduceEqDiff, not_false_eq_true, true_or, or_true, true_and]
  refine t_46 (by omega) (by omega) (fun c => ?_) (fun c => ?_)
  · have f := k1 c
    clear k0 k1 c
    (conv => whnf); try simp only [gO, gWe, ne_eq, Nat.reduceEqDiff, not_false_eq_true, true_or, or_true, true_and]
    repeat' (first | exact True.intro | (refine ⟨fun hb => ?_, fun hb => ?_⟩ <;> first | (exfalso; omega; done) | exact absurd True.intro hb | ((conv => whnf); try simp only [gO, gWe, ne_eq, Nat.reduceEqDiff, not_false_eq_true, true_or, or_true, true_and])) | (refine ⟨by omega, ?_⟩; (conv => whnf); try simp only [gO, gWe, ne_eq, Nat.reduceEqDiff, not_false_eq_true, true_or, or_true, true_and]) | (refine ⟨fun hb => ?_, ?_⟩ <;> first | (exfalso; omega; done) | exact absurd True.intro hb | ((conv => whnf); try simp only [gO, gWe, ne_eq, Nat.reduceEqDiff, not_false_eq_true, true_or, or_true, true_and])) | fail)
    refine t_1 (by omega) hH0.1 hH0.2.1 hH0.2.2.1 hH0.2.2.2 (fun ν hν hl => ?_)
    (conv => whnf); try simp only [gO, gWe, ne_eq, Nat.reduceEqDiff, not_false_eq_true, true_or, or_true, true_and]
    repeat' (first | exact True.intro | (refine ⟨fun hb => ?_, fun hb => ?_⟩ <;> first | (exfalso; omega; done) | exact absurd True.intro hb | ((conv => whnf); try simp only [gO, gWe, ne_eq, Nat.reduceEqDiff, not_false_eq_true, true_or, or_true, true_and])) | (refine ⟨by omega, ?_⟩; (conv => whnf); try simp only [gO, gWe, ne_eq, Nat.reduceEqDiff, not_false_eq_true, true_or, or_true, true_and]) | (refine ⟨fun hb => ?_, ?_⟩ <;> first | (exfalso; omega; done) | exact absurd True.intro hb | ((conv => whnf); try simp only [gO, gWe, ne_eq, Nat.reduceEqDiff, not_false_eq_true, true_or, or_true, true_and])) | fail)
    exact f ν hν hl
  · have f := k0 c
    clear k0 k1 c
    (conv => whnf); try simp only [gO, gWe, ne_eq, Nat.reduceEqDiff, not_false_eq_true, true_or, or_true, true_and]
    repeat' (first | exact True.intro | (refine ⟨fun hb => ?_, fun hb => ?_⟩ <;> first | (exfalso; omega; done) | exact absurd True.intro hb | ((conv => whnf); try simp only [gO, gWe, ne_eq, Nat.reduceEqDiff, not_false_eq_true, true_or, or_true, true_and])) | (refine ⟨by omega, ?_⟩; (conv => whnf); try simp only [gO, gWe, ne_eq, Nat.reduceEqDiff, not_false_eq_true, true_or, or_true, true_and]) | (refine ⟨fun hb => ?_, ?_⟩ <;> first | (exfalso; omega; done) | exact absurd True.intro hb | ((conv => whnf); try simp only [gO, gWe, ne_eq, Nat.reduceEqDiff, not_false_eq_true, true_or, or_true, true_and])) | fail)
    exact f
def hSame (μ : MU) (sq : Int → Int) : Prop := ∀ k : Int, 0 ≤ k → k < (μ 19 2) → sq k = (μ 24) k
def hPk (μ : MU) (sq f : Int → Int) : Prop := ∀ y k : Int, 0 ≤ y → y < (μ 9 1) → (μ 23) y ≤ k → k < (μ 23) (y + 1) → f k = pkX μ sq y k
theorem fin_o {μ τ : MU} (hA : iAll μ) (l1 : (μ 0 6) = 1) (hτ : gFr [24, 25, 26, 27, 28, 29, 30, 31, 32, 34, 35, 61, 62, 66, 67, 68, 69, 70, 71, 72, 73, 74, 75, 76, 77, 78, 79, 80] μ τ) (h61 : ∀ j : Int, j ≠ 5 → τ 61 j = μ 61 j) (hf : (τ 61 5) = 1) (hK : iK τ (τ 24) (τ 25)) (hC : ∀ z : Int, 0 ≤ z → z < (μ 9 1) → iC μ (τ 24) z) (hl : τ 62 2 = 1) (hL1 : (hSame μ (τ 24) ∧ (τ 34) = (μ 34)) ∨ (¬ hSame μ (τ 24) ∧ hPk μ (τ 24) (fun k => (τ 34) ((τ 24) k)))) (hL2 : (hSame μ (τ 24) ∧ ∀ k : Int, 0 ≤ k → k < (μ 19 2) → τ 62 (229 + k) = μ 62 (229 + k)) ∨ (¬ hSame μ (τ 24) ∧ hPk μ (τ 24) (fun k => τ 62 (229 + k)))) : iAll τ := by
  have st : hSt μ τ := hτ.st (by decide)
  obtain ⟨hM, hN, hS, hO, hq⟩ := hK
  have hOμ : iO μ (τ 24) (τ 25) := iO_c (fun c a b => (st c a b).symm) hO
  obtain ⟨a1, a2, a3, a4, a5⟩ := hA
  obtain ⟨dN, dO, dC, dX⟩ := a1.2.2.2 l1
  obtain ⟨mS, mq, mx⟩ := a2.2.2 l1
  have l1' : (τ 0 6) = 1 := by rw [hτ 0 (by decide)]; exact l1
  have e19 : (τ 19 2) = (μ 19 2) := by rw [st 19 (by decide) (by decide)]
  have e9 : (τ 9 1) = (μ 9 1) := by rw [st 9 (by decide) (by decide)]
  have both : (∀ v : Int, 0 ≤ v → v < (μ 19 2) → 0 ≤ (τ 34) v ∧ (τ 34) v ≤ 1000) ∧ ∀ k : Int, 0 ≤ k → k < (μ 19 2) → τ 62 (229 + k) = (τ 34) ((τ 24) k) := by
    rcases hL1 with ⟨s1, x1⟩ | ⟨s1, x1⟩ <;> rcases hL2 with ⟨s2, x2⟩ | ⟨s2, x2⟩
    · refine ⟨fun v v0 v1 => by rw [x1]; exact dX v v0 v1, fun k k0 k1 => ?_⟩
      rw [x2 k k0 k1, x1, s1 k k0 k1]
      exact mx k k0 k1
    · exact absurd s1 s2
    · exact absurd s2 s1
    · refine ⟨fun v v0 v1 => ?_, fun k k0 k1 => ?_⟩
      · have b := iO_v a1.1 a1.2.1 dN hOμ v0 v1
        have c := x1 _ _ b.1.1 b.1.2 (show (μ 23) ((μ 21) v) ≤ (μ 23) ((μ 21) v) + (τ 25) v by omega) b.2.2.1.2.1
        have d := pkX_b (sq := (τ 24)) (pl := (τ 25)) a1.1 a1.2.1 dN hOμ b.1.1 b.1.2 (show (μ 23) ((μ 21) v) ≤ (μ 23) ((μ 21) v) + (τ 25) v by omega) (Int.le_of_lt b.2.2.1.2.1)
        have c' : (τ 34) ((τ 24) ((μ 23) ((μ 21) v) + (τ 25) v)) = _ := c
        rw [b.2.2.2] at c'
        omega
      · obtain ⟨y, y0, y1, y2, y3⟩ := iN_ly a1.1 a1.2.1 dN k0 k1
        have p := x1 y k y0 y1 y2 y3
        have q := x2 y k y0 y1 y2 y3
        exact q.trans p.symm
  refine ⟨⟨hM.1, hM.2.1, Or.inr l1', fun _ => ⟨hN, hO, fun y y0 y1 => iC_c st (hC y y0 (by omega)), fun v v0 v1 => both.1 v v0 (by omega)⟩⟩, ⟨hM.2.2.1, ⟨by rw [hl, l1'], by have z := hS.2 0 (by omega) (by have := hM.2.1.2.2.2.1; omega); have z0 := hN.2.2.2.2.2.1; exact z.trans z0⟩, fun _ => ⟨hS, hq, fun k k0 k1 => both.2 k k0 (by omega)⟩⟩, ⟨Or.inr hf, fun _ => hM.2.2.2⟩, ?_, ?_⟩
  · refine hRs_T ⟨fun c a b => hτ c (fun hc => by simp only [List.mem_cons, List.not_mem_nil, or_false] at hc; omega), by rw [hτ 36 (by decide)], h61 4 (by decide), hτ 63 (by decide), hτ 64 (by decide)⟩ (hτ 65 (by decide)) a4
  · refine hRs_S ⟨fun c a b => hτ c (fun hc => by simp only [List.mem_cons, List.not_mem_nil, or_false] at hc; omega), by rw [hτ 36 (by decide)], h61 4 (by decide), hτ 63 (by decide), hτ 64 (by decide)⟩ a5
/-- the model begins, behind the class -/
theorem m_begin {D : Nat} (hD : 4 ≤ D) {μ ν : MU} {Q : GQ} (hA : iAll μ) (l1 : (μ 0 6) = 1) (hν : gFr [24, 25, 26, 27, 28, 29, 30, 31, 32, 34, 35] μ ν) (h : ∀ ρ : MU, gFr [61, 66, 67, 68, 69, 70] ν ρ → (∀ j : Int, j ≠ 5 → ρ 61 j = μ 61 j) → (ρ 61 5) = 1 → iK ρ (μ 24) (μ 25) → Q none g_SH ρ) : gCall g_T g_F D 146 [gR 61] g_SH ν Q := by
  have st : hSt μ ν := hν.st (by decide)
  obtain ⟨dN, dO, dC, dX⟩ := hA.1.2.2.2 l1
  obtain ⟨mS, mq, mx⟩ := hA.2.1.2.2 l1
  have e62 : ν 62 = μ 62 := hν 62 (by decide)
  refine t_146 hD (iG_c st hA.1.1) (iL_c st hA.1.2.1) ?_ (iF_c st (by rw [hν 61 (by decide)]) (hν 66 (by decide)) (hν 67 (by decide)) hA.2.2.1) (fun ρ hρ h61 hf hd => ?_)
  · have := hA.2.1.1
    unfold iGm at *
    simp only [st 1 (by decide) (by decide), st 2 (by decide) (by decide), st 3 (by decide) (by decide), st 4 (by decide) (by decide), st 5 (by decide) (by decide), st 6 (by decide) (by decide), st 7 (by decide) (by decide), st 8 (by decide) (by decide), st 9 (by decide) (by decide), st 10 (by decide) (by decide), st 11 (by decide) (by decide), st 12 (by decide) (by decide), st 13 (by decide) (by decide), st 14 (by decide) (by decide), st 15 (by decide) (by decide), st 16 (by decide) (by decide), st 17 (by decide) (by decide), st 18 (by decide) (by decide), st 19 (by decide) (by decide), st 20 (by decide) (by decide), st 21 (by decide) (by decide), st 22 (by decide) (by decide), st 23 (by decide) (by decide), e62]
    exact this
  · have st2 := st.tr (hρ.st (by decide))
    have e : ρ 62 = μ 62 := (hρ 62 (by decide)).trans e62
    refine h ρ hρ (fun j hj => (h61 j hj).trans (by rw [hν 61 (by decide)])) hf ⟨⟨iG_c st2 hA.1.1, iL_c st2 hA.1.2.1, ?_, hd⟩, iN_c st2 dN, ?_, iO_c st2 dO, ?_⟩
    · have := hA.2.1.1
      unfold iGm at *
      simp only [st2 1 (by decide) (by decide), st2 2 (by decide) (by decide), st2 3 (by decide) (by decide), st2 4 (by decide) (by decide), st2 5 (by decide) (by decide), st2 6 (by decide) (by decide), st2 7 (by decide) (by decide), st2 8 (by decide) (by decide), st2 9 (by decide) (by decide), st2 10 (by decide) (by decide), st2 11 (by decide) (by decide), st2 12 (by decide) (by decide), st2 13 (by decide) (by decide), st2 14 (by decide) (by decide), st2 15 (by decide) (by decide), st2 16 (by decide) (by decide), st2 17 (by decide) (by decide), st2 18 (by decide) (by decide), st2 19 (by decide) (by decide), st2 20 (by decide) (by decide), st2 21 (by decide) (by decide), st2 22 (by decide) (by decide), st2 23 (by decide) (by decide), e]
      exact this
    · unfold iDs at *
      simp only [st2 1 (by decide) (by decide), st2 2 (by decide) (by decide), st2 3 (by decide) (by decide), st2 4 (by decide) (by decide), st2 5 (by decide) (by decide), st2 6 (by decide) (by decide), st2 7 (by decide) (by decide), st2 8 (by decide) (by decide), st2 9 (by decide) (by decide), st2 10 (by decide) (by decide), st2 11 (by decide) (by decide), st2 12 (by decide) (by decide), st2 13 (by decide) (by decide), st2 14 (by decide) (by decide), st2 15 (by decide) (by decide), st2 16 (by decide) (by decide), st2 17 (by decide) (by decide), st2 18 (by decide) (by decide), st2 19 (by decide) (by decide), st2 20 (by decide) (by decide), st2 21 (by decide) (by decide), st2 22 (by decide) (by decide), st2 23 (by decide) (by decide), e]
      exact mS
    · simp only [st2 1 (by decide) (by decide), st2 2 (by decide) (by decide), st2 3 (by decide) (by decide), st2 4 (by decide) (by decide), st2 5 (by decide) (by decide), st2 6 (by decide) (by decide), st2 7 (by decide) (by decide), st2 8 (by decide) (by decide), st2 9 (by decide) (by decide), st2 10 (by decide) (by decide), st2 11 (by decide) (by decide), st2 12 (by decide) (by decide), st2 13 (by decide) (by decide), st2 14 (by decide) (by decide), st2 15 (by decide) (by decide), st2 16 (by decide) (by decide), st2 17 (by decide) (by decide), st2 18 (by decide) (by decide), st2 19 (by decide) (by decide), st2 20 (by decide) (by decide), st2 21 (by decide) (by decide), st2 22 (by decide) (by decide), st2 23 (by decide) (by decide), e]
      exact mq
