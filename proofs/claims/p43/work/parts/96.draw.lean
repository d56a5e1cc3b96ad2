variable {sN : Int} {sX : Int → Int}
/-! the drawing is made, swept, sifted, reduced: what holds behind it -/
theorem hLC_l {μ ν : MU} (hW : iW μ) (hx : iX μ) (hν : gFr [24, 25, 26, 27, 28, 29, 30, 31, 32, 34, 35] μ ν) (hOC : iOC μ ((ν 24), (ν 25))) (hl : hLC μ ν (ν 24)) : iW ν ∧ iX ν := by
  have hG := hW.1.1
  have hL := hW.1.2.1
  obtain ⟨hN, hO, hC, hX⟩ := hW.1.2.2.2 hW.2
  have l1 := hW.2
  have G := hG.1
  have L := hL.2.2.2.1
  have V := hN.1
  have st : hSt μ ν := hν.st (by decide)
  have e9 : (ν 9 1) = (μ 9 1) := by rw [st 9 (by decide) (by decide)]
  have e19 : (ν 19 2) = (μ 19 2) := by rw [st 19 (by decide) (by decide)]
  have e23 : (ν 23) = (μ 23) := st 23 (by decide) (by decide)
  have hO1 : iO μ (ν 24) (ν 25) := hOC.1
  have hC1 : ∀ z : Int, 0 ≤ z → z < (μ 9 1) → iC μ (ν 24) z := hOC.2
  have lb : ∀ v : Int, 0 ≤ v → v < (μ 19 2) → 0 ≤ (ν 34) v ∧ (ν 34) v ≤ 1000 := by
    rcases hl with ⟨-, h2⟩ | ⟨-, h2⟩
    · rw [h2]
      exact hX
    · intro v v0 v1
      have a := iO_v hG hL hN hO1 v0 v1
      have b := h2 ((μ 21) v) ((μ 23) ((μ 21) v) + (ν 25) v) a.1.1 a.1.2 (by omega) a.2.2.1.2.1
      have c := pkX_b hG hL hN hO1 (y := (μ 21) v) (k := (μ 23) ((μ 21) v) + (ν 25) v) a.1.1 a.1.2 (by omega) (by omega)
      dsimp only at b
      rw [a.2.2.2] at b
      omega
  refine ⟨⟨⟨iG_c st hG, iL_c st hL, by rw [hν 0 (by decide)]; exact hW.1.2.2.1, fun _ => ⟨iN_c st hN, iO_c st hO1, fun y y0 y1 => ?_, fun v v0 v1 => ?_⟩⟩, by rw [hν 0 (by decide)]; exact l1⟩, fun y k y0 y1 k0 k1 => ?_⟩
  · rw [e9] at y1
    exact iC_c st (hC1 y y0 y1)
  · rw [e19] at v1
    exact lb v v0 v1
  · rw [e9] at y1
    rw [e23] at k0 k1
    have s := (iN_st hG hL hN).1 y y0 y1
    rw [xWd_c st]
    rcases hl with ⟨h1, h2⟩ | ⟨-, h2⟩
    · rw [h2, h1 k (by omega) (by omega), h1 (k + 1) (by omega) (by omega)]
      exact hx y k y0 y1 k0 k1
    · have a := h2 y k y0 y1 k0 (by omega)
      have b := h2 y (k + 1) y0 y1 (by omega) k1
      dsimp only at a b
      rw [a, b, pkX_s k0]
      omega
theorem c_tail {D : Nat} (hD : 3 ≤ D) {μ ν₁ : MU} {Q : GQ} {s : GO} (hA : iW μ) (hν₁ : gFr [24, 25, 26, 27, 28, 29, 30, 31, 32] μ ν₁) (hs : ((ν₁ 24), (ν₁ 25)) = s) (hO : iO μ s.1 s.2) (hr : ∀ j : Int, 0 ≤ j → j < 60 → (ν₁ 26) j = (μ 24) j) (h : ∀ ν : MU, gFr [34] ν₁ ν → hLC μ ν s.1 → Q none g_SH ν) : gCall g_T g_F sN sX D 117 [gR 0] g_SH ν₁ Q := by
  have st : hSt μ ν₁ := hν₁.st (by decide)
  have dN := (hA.1.2.2.2 hA.2).1
  have V := dN.1
  have e1 : (ν₁ 24) = s.1 := congrArg Prod.fst hs
  have e2 : (ν₁ 25) = s.2 := congrArg Prod.snd hs
  have e19 : (ν₁ 19 2) = (μ 19 2) := by rw [st 19 (by decide) (by decide)]
  have cond : (∀ k : Int, 0 ≤ k → k < (ν₁ 19 2) → (ν₁ 24) k = (ν₁ 26) k) ↔ hSame μ s.1 := by
    rw [e19, e1]
    refine ⟨fun hh k k0 k1 => (hh k k0 k1).trans (hr k k0 (by omega)), fun hh k k0 k1 => (hh k k0 k1).trans (hr k k0 (by omega)).symm⟩
  refine t_117 hD ⟨iG_c st hA.1.1, iL_c st hA.1.2.1, iN_c st dN, by rw [e1, e2]; exact iO_c st hO⟩ (fun c => ?_) (fun c ν hν hl => ?_)
  · exact h ν₁ gFr.rf (Or.inl ⟨cond.mp c, hν₁ 34 (by decide)⟩)
  · refine h ν hν (Or.inr ⟨fun hh => c (cond.mpr hh), fun y k y0 y1 k0 k1 => ?_⟩)
    have z := hl y k y0 (by rw [st 9 (by decide) (by decide)]; exact y1) (by rw [st 23 (by decide) (by decide)]; exact k0) (by rw [st 23 (by decide) (by decide)]; exact k1)
    rw [pkX_c st, e1] at z
    exact z
/-- behind a change of the order: pack where it is another, count -/
theorem p_tail {D : Nat} (hD : 30 ≤ D) {μ ν₂ : MU} {Q : GQ} {s : GO} (hW : iW μ) (hx : iX μ) (f2 : gFr [24, 25, 26, 27, 28, 29, 30, 31, 32] μ ν₂) (hs2 : ((ν₂ 24), (ν₂ 25)) = s) (sO : iOC μ s) (hr : ∀ j : Int, 0 ≤ j → j < 60 → (ν₂ 26) j = (μ 24) j) (h : ∀ ν : MU, gFr [24, 25, 26, 27, 28, 29, 30, 31, 32, 34, 35] μ ν → ((ν 24), (ν 25)) = s → iW ν → iX ν → Q none g_SH ν) : gCall g_T g_F sN sX D 117 [gR 0] g_SH ν₂ Q := by
  refine c_tail (by omega) hW f2 hs2 sO.1 hr (fun ν₃ hν₃ hLc => ?_)
  have e : ((ν₃ 24), (ν₃ 25)) = s := by rw [hν₃ 24 (by decide), hν₃ 25 (by decide)]; exact hs2
  have f3 : gFr [24, 25, 26, 27, 28, 29, 30, 31, 32, 34, 35] μ ν₃ := (f2.mo (by decide)).tr (hν₃.mo (by decide))
  have e3 : (ν₃ 24) = s.1 := congrArg Prod.fst e
  have r := hLC_l hW hx f3 (by rw [e]; exact sO) (by rw [e3]; exact hLc)
  exact h ν₃ f3 e r.1 r.2
theorem p_96 {D : Nat} (hD : 36 ≤ D) {μ : MU} {Q : GQ} {b : Int} (hW : iW μ) (hx : iX μ) (h : ∀ ν : MU, gFr [24, 25, 26, 27, 28, 29, 30, 31, 32, 34, 35] μ ν → iW ν → iX ν → Q (some (gI (xCa ν (ν 25)))) g_SH ν) : gCall g_T g_F sN sX D 96 [gR 0, gI b] g_SH μ Q := by
  have hG := hW.1.1
  have hL := hW.1.2.1
  obtain ⟨hN, hO, hC, hX⟩ := hW.1.2.2.2 hW.2
  have l1 := hW.2
  have G := hG.1
  have L := hL.2.2.2.1
  have V := hN.1
  have sO : iOC μ (swpA μ b ((μ 24), (μ 25))) := swpA_o (s := ((μ 24), (μ 25))) hG hL hN ⟨hO, hC⟩ b
  obtain ⟨d, rfl⟩ := gD (show 1 ≤ D by omega)
  refine gC 300 [] rfl ?_
  (conv => whnf); try simp only [gO, gWe, ne_eq, Nat.reduceEqDiff, not_false_eq_true, true_or, or_true, true_and]
  repeat' (first | exact True.intro | (refine ⟨fun hb => ?_, fun hb => ?_⟩ <;> first | (exfalso; omega; done) | exact absurd True.intro hb | ((conv => whnf); try simp only [gO, gWe, ne_eq, Nat.reduceEqDiff, not_false_eq_true, true_or, or_true, true_and])) | (refine ⟨by omega, ?_⟩; (conv => whnf); try simp only [gO, gWe, ne_eq, Nat.reduceEqDiff, not_false_eq_true, true_or, or_true, true_and]) | (refine ⟨fun hb => ?_, ?_⟩ <;> first | (exfalso; omega; done) | exact absurd True.intro hb | ((conv => whnf); try simp only [gO, gWe, ne_eq, Nat.reduceEqDiff, not_false_eq_true, true_or, or_true, true_and])) | fail)
  refine t_45 (by omega) (fun ν₁ hν₁ hr => ?_)
  have s1 : hSt μ ν₁ := hν₁.st (by decide)
  (conv => whnf); try simp only [gO, gWe, ne_eq, Nat.reduceEqDiff, not_false_eq_true, true_or, or_true, true_and]
  repeat' (first | exact True.intro | (refine ⟨fun hb => ?_, fun hb => ?_⟩ <;> first | (exfalso; omega; done) | exact absurd True.intro hb | ((conv => whnf); try simp only [gO, gWe, ne_eq, Nat.reduceEqDiff, not_false_eq_true, true_or, or_true, true_and])) | (refine ⟨by omega, ?_⟩; (conv => whnf); try simp only [gO, gWe, ne_eq, Nat.reduceEqDiff, not_false_eq_true, true_or, or_true, true_and]) | (refine ⟨fun hb => ?_, ?_⟩ <;> first | (exfalso; omega; done) | exact absurd True.intro hb | ((conv => whnf); try simp only [gO, gWe, ne_eq, Nat.reduceEqDiff, not_false_eq_true, true_or, or_true, true_and])) | fail)
  refine t_58 (by omega) ⟨iG_c s1 hG, iL_c s1 hL, iN_c s1 hN, by rw [hν₁ 24 (by decide), hν₁ 25 (by decide)]; exact iO_c s1 hO⟩ (fun z z0 z1 => by rw [hν₁ 24 (by decide)]; rw [s1 9 (by decide) (by decide)] at z1; exact iC_c s1 (hC z z0 z1)) (fun ν₂ hν₂ hs2 => ?_)
  rw [swpA_c s1, hν₁ 24 (by decide), hν₁ 25 (by decide)] at hs2
  have f2 : gFr [24, 25, 26, 27, 28, 29, 30, 31, 32] μ ν₂ := (hν₁.mo (by decide)).tr (hν₂.mo (by decide))
  (conv => whnf); try simp only [gO, gWe, ne_eq, Nat.reduceEqDiff, not_false_eq_true, true_or, or_true, true_and]
  repeat' (first | exact True.intro | (refine ⟨fun hb => ?_, fun hb => ?_⟩ <;> first | (exfalso; omega; done) | exact absurd True.intro hb | ((conv => whnf); try simp only [gO, gWe, ne_eq, Nat.reduceEqDiff, not_false_eq_true, true_or, or_true, true_and])) | (refine ⟨by omega, ?_⟩; (conv => whnf); try simp only [gO, gWe, ne_eq, Nat.reduceEqDiff, not_false_eq_true, true_or, or_true, true_and]) | (refine ⟨fun hb => ?_, ?_⟩ <;> first | (exfalso; omega; done) | exact absurd True.intro hb | ((conv => whnf); try simp only [gO, gWe, ne_eq, Nat.reduceEqDiff, not_false_eq_true, true_or, or_true, true_and])) | fail)
  refine p_tail (by omega) hW hx f2 hs2 sO (fun j j0 j1 => by rw [hν₂ 26 (by decide)]; exact hr j j0 j1) (fun ν₃ f3 _ hW3 hx3 => ?_)
  (conv => whnf); try simp only [gO, gWe, ne_eq, Nat.reduceEqDiff, not_false_eq_true, true_or, or_true, true_and]
  repeat' (first | exact True.intro | (refine ⟨fun hb => ?_, fun hb => ?_⟩ <;> first | (exfalso; omega; done) | exact absurd True.intro hb | ((conv => whnf); try simp only [gO, gWe, ne_eq, Nat.reduceEqDiff, not_false_eq_true, true_or, or_true, true_and])) | (refine ⟨by omega, ?_⟩; (conv => whnf); try simp only [gO, gWe, ne_eq, Nat.reduceEqDiff, not_false_eq_true, true_or, or_true, true_and]) | (refine ⟨fun hb => ?_, ?_⟩ <;> first | (exfalso; omega; done) | exact absurd True.intro hb | ((conv => whnf); try simp only [gO, gWe, ne_eq, Nat.reduceEqDiff, not_false_eq_true, true_or, or_true, true_and])) | fail)
  refine t_56 (by omega) (iW_H hW3) (fun ν₄ hν₄ => ?_)
  have r4 : hRd ν₃ ν₄ := hν₄
  have k := h ν₄ (f3.tr (hν₄.mo (by decide))) (r4.W hW3) (fun y k y0 y1 k0 k1 => by
    rw [r4 9 (by decide)] at y1
    rw [r4 23 (by decide)] at k0 k1
    rw [r4 34 (by decide), r4 24 (by decide), xWd_c r4.st]
    exact hx3 y k y0 y1 k0 k1)
  rw [xCa_c r4.st, r4 25 (by decide)] at k
  exact k
theorem hRd.X {μ ν : MU} (h : hRd μ ν) (hx : iX μ) : iX ν := fun y k y0 y1 k0 k1 => by
  rw [h 9 (by decide)] at y1
  rw [h 23 (by decide)] at k0 k1
  rw [h 34 (by decide), h 24 (by decide), xWd_c h.st]
  exact hx y k y0 y1 k0 k1
theorem hRd.Ca {μ ν : MU} (h : hRd μ ν) : xCa ν (ν 25) = xCa μ (μ 25) := by rw [xCa_c h.st, h 25 (by decide)]
/-- a sifting makes no more crossings -/
theorem sft_le {μ : MU} {s : GO} {v : Int} (hG : iG μ) (hL : iL μ) (hN : iN μ) (hO : iOC μ s) (v0 : 0 ≤ v) (v1 : v < (μ 19 2)) : xCa μ (sft μ s v).2 ≤ xCa μ s.2 := by
  obtain ⟨b, hb0⟩ := hBest_x hG hL hN hO v0 v1
  have ov := iO_v hG hL hN hO.1 v0 v1
  have oo := sft_o hG hL hN hO v0 v1 hb0
  have pb := sftP_o hG hL hN hO.1 v0 v1 b.toNat (by have := hb0.1; omega)
  have pa := sftP_o hG hL hN hO.1 v0 v1 (s.2 v).toNat (by omega)
  have e1 : xCa μ (sft μ s v).2 = xCa μ (sftP μ s v b.toNat).2 := xCa_e hG hL hN (fun w w0 w1 => iO_plu hG hL hN pb.1 oo.1 (fun k _ _ => by rw [sft_s hb0]) w0 w1)
  have e2 : xCa μ s.2 = xCa μ (sftP μ s v (s.2 v).toNat).2 := xCa_e hG hL hN (fun w w0 w1 => iO_plu hG hL hN pa.1 hO.1 (fun k _ _ => by rw [sftP_a hG hL hN hO.1 v0 v1]) w0 w1)
  rw [e1, e2, sftC_a hG hL hN hO.1 v0 v1 b.toNat (by have := hb0.1; omega), sftC_a hG hL hN hO.1 v0 v1 (s.2 v).toNat (by omega)]
  have m := hb0.2.2 (s.2 v) (by omega) (by omega) (by rw [sftP_a hG hL hN hO.1 v0 v1]; exact hO.2 _ ov.1.1 ov.1.2)
  omega
theorem sfL_le {μ : MU} {s : GO} {y : Int} (hG : iG μ) (hL : iL μ) (hN : iN μ) (hO : iOC μ s) : ∀ n : Nat, (n : Int) ≤ (μ 19 2) → xCa μ (sfL μ y s n).2 ≤ xCa μ s.2 := by
  intro n
  induction n with
  | zero => intro _; exact Int.le_refl _
  | succ n ih =>
    intro h
    have a := ih (by omega)
    have o := sfL_O (y := y) hG hL hN hO n (by omega)
    unfold sfL
    by_cases c : (μ 21) n = y
    · rw [if_pos c]
      exact Int.le_trans (sft_le hG hL hN o (by omega) (by omega)) a
    · rw [if_neg c]
      exact a
theorem sfA_le {μ : MU} {s : GO} (hG : iG μ) (hL : iL μ) (hN : iN μ) (hO : iOC μ s) : ∀ k : Nat, xCa μ (sfA μ s k).2 ≤ xCa μ s.2 := by
  intro k
  have V := hN.1
  have G := hG.1
  induction k with
  | zero => exact Int.le_refl _
  | succ k ih =>
    unfold sfA
    exact Int.le_trans (sfL_le hG hL hN (sfA_O hG hL hN hO k) _ (by omega)) ih
theorem imp_le {μ : MU} {s : GO} : ∀ k : Nat, xCa μ (imp μ s k).2.2 ≤ xCa μ s.2 := by
  intro k
  induction k with
  | zero => exact Int.le_refl _
  | succ k ih =>
    unfold imp
    split
    · rename_i c
      exact Int.le_trans (Int.le_of_lt c) ih
    · exact ih
theorem p_98 {D : Nat} (hD : 36 ≤ D) {μ : MU} {Q : GQ} (hW : iW μ) (hx : iX μ) (h : ∀ ν : MU, gFr [24, 25, 26, 27, 28, 29, 30, 31, 32, 34, 35] μ ν → iW ν → iX ν → xCa ν (ν 25) ≤ xCa μ (μ 25) → Q (some (gI (xCa ν (ν 25)))) g_SH ν) : gCall g_T g_F sN sX D 98 [gR 0] g_SH μ Q := by
  have hG := hW.1.1
  have hL := hW.1.2.1
  obtain ⟨hN, hO, hC, hX⟩ := hW.1.2.2.2 hW.2
  have l1 := hW.2
  have G := hG.1
  have L := hL.2.2.2.1
  have V := hN.1
  have sO : iOC μ (sfA μ ((μ 24), (μ 25)) (μ 9 1).toNat) := sfA_O (s := ((μ 24), (μ 25))) hG hL hN ⟨hO, hC⟩ _
  have le : xCa μ (sfA μ ((μ 24), (μ 25)) (μ 9 1).toNat).2 ≤ xCa μ (μ 25) := sfA_le (s := ((μ 24), (μ 25))) hG hL hN ⟨hO, hC⟩ _
  obtain ⟨d, rfl⟩ := gD (show 1 ≤ D by omega)
  refine gC 300 [] rfl ?_
  (conv => whnf); try simp only [gO, gWe, ne_eq, Nat.reduceEqDiff, not_false_eq_true, true_or, or_true, true_and]
  repeat' (first | exact True.intro | (refine ⟨fun hb => ?_, fun hb => ?_⟩ <;> first | (exfalso; omega; done) | exact absurd True.intro hb | ((conv => whnf); try simp only [gO, gWe, ne_eq, Nat.reduceEqDiff, not_false_eq_true, true_or, or_true, true_and])) | (refine ⟨by omega, ?_⟩; (conv => whnf); try simp only [gO, gWe, ne_eq, Nat.reduceEqDiff, not_false_eq_true, true_or, or_true, true_and]) | (refine ⟨fun hb => ?_, ?_⟩ <;> first | (exfalso; omega; done) | exact absurd True.intro hb | ((conv => whnf); try simp only [gO, gWe, ne_eq, Nat.reduceEqDiff, not_false_eq_true, true_or, or_true, true_and])) | fail)
  refine t_45 (by omega) (fun ν₁ hν₁ hr => ?_)
  have s1 : hSt μ ν₁ := hν₁.st (by decide)
  (conv => whnf); try simp only [gO, gWe, ne_eq, Nat.reduceEqDiff, not_false_eq_true, true_or, or_true, true_and]
  repeat' (first | exact True.intro | (refine ⟨fun hb => ?_, fun hb => ?_⟩ <;> first | (exfalso; omega; done) | exact absurd True.intro hb | ((conv => whnf); try simp only [gO, gWe, ne_eq, Nat.reduceEqDiff, not_false_eq_true, true_or, or_true, true_and])) | (refine ⟨by omega, ?_⟩; (conv => whnf); try simp only [gO, gWe, ne_eq, Nat.reduceEqDiff, not_false_eq_true, true_or, or_true, true_and]) | (refine ⟨fun hb => ?_, ?_⟩ <;> first | (exfalso; omega; done) | exact absurd True.intro hb | ((conv => whnf); try simp only [gO, gWe, ne_eq, Nat.reduceEqDiff, not_false_eq_true, true_or, or_true, true_and])) | fail)
  refine t_63 (by omega) ⟨iG_c s1 hG, iL_c s1 hL, iN_c s1 hN, by rw [hν₁ 24 (by decide), hν₁ 25 (by decide)]; exact iO_c s1 hO⟩ (fun z z0 z1 => by rw [hν₁ 24 (by decide)]; rw [s1 9 (by decide) (by decide)] at z1; exact iC_c s1 (hC z z0 z1)) (fun ν₂ hν₂ hs2 => ?_)
  rw [sfA_c s1, hν₁ 24 (by decide), hν₁ 25 (by decide), s1 9 (by decide) (by decide)] at hs2
  have f2 : gFr [24, 25, 26, 27, 28, 29, 30, 31, 32] μ ν₂ := (hν₁.mo (by decide)).tr (hν₂.mo (by decide))
  generalize hsf : sfA μ ((μ 24), (μ 25)) (μ 9 1).toNat = s at *
  (conv => whnf); try simp only [gO, gWe, ne_eq, Nat.reduceEqDiff, not_false_eq_true, true_or, or_true, true_and]
  repeat' (first | exact True.intro | (refine ⟨fun hb => ?_, fun hb => ?_⟩ <;> first | (exfalso; omega; done) | exact absurd True.intro hb | ((conv => whnf); try simp only [gO, gWe, ne_eq, Nat.reduceEqDiff, not_false_eq_true, true_or, or_true, true_and])) | (refine ⟨by omega, ?_⟩; (conv => whnf); try simp only [gO, gWe, ne_eq, Nat.reduceEqDiff, not_false_eq_true, true_or, or_true, true_and]) | (refine ⟨fun hb => ?_, ?_⟩ <;> first | (exfalso; omega; done) | exact absurd True.intro hb | ((conv => whnf); try simp only [gO, gWe, ne_eq, Nat.reduceEqDiff, not_false_eq_true, true_or, or_true, true_and])) | fail)
  refine p_tail (by omega) hW hx f2 hs2 sO (fun j j0 j1 => by rw [hν₂ 26 (by decide)]; exact hr j j0 j1) (fun ν₃ f3 e3 hW3 hx3 => ?_)
  have q3 : xCa ν₃ (ν₃ 25) ≤ xCa μ (μ 25) := by
    rw [xCa_c (f3.st (by decide)), show (ν₃ 25) = s.2 from congrArg Prod.snd e3]
    exact le
  (conv => whnf); try simp only [gO, gWe, ne_eq, Nat.reduceEqDiff, not_false_eq_true, true_or, or_true, true_and]
  repeat' (first | exact True.intro | (refine ⟨fun hb => ?_, fun hb => ?_⟩ <;> first | (exfalso; omega; done) | exact absurd True.intro hb | ((conv => whnf); try simp only [gO, gWe, ne_eq, Nat.reduceEqDiff, not_false_eq_true, true_or, or_true, true_and])) | (refine ⟨by omega, ?_⟩; (conv => whnf); try simp only [gO, gWe, ne_eq, Nat.reduceEqDiff, not_false_eq_true, true_or, or_true, true_and]) | (refine ⟨fun hb => ?_, ?_⟩ <;> first | (exfalso; omega; done) | exact absurd True.intro hb | ((conv => whnf); try simp only [gO, gWe, ne_eq, Nat.reduceEqDiff, not_false_eq_true, true_or, or_true, true_and])) | fail)
  refine t_56 (by omega) (iW_H hW3) (fun ν₄ hν₄ => ?_)
  have r4 : hRd ν₃ ν₄ := hν₄
  have k := h ν₄ (f3.tr (hν₄.mo (by decide))) (r4.W hW3) (r4.X hx3) (by rw [r4.Ca]; exact q3)
  rw [r4.Ca] at k
  exact k
theorem p_99 {D : Nat} (hD : 36 ≤ D) {μ : MU} {Q : GQ} {r : Int} (hW : iW μ) (hx : iX μ) (r0 : 1 ≤ r) (r1 : r ≤ 6) (h : ∀ ν : MU, gFr [24, 25, 26, 27, 28, 29, 30, 31, 32, 34, 35] μ ν → iW ν → iX ν → xCa ν (ν 25) ≤ xCa μ (μ 25) → Q (some (gI (xCa ν (ν 25)))) g_SH ν) : gCall g_T g_F sN sX D 99 [gR 0, gI r] g_SH μ Q := by
  have hG := hW.1.1
  have hL := hW.1.2.1
  obtain ⟨hN, hO, hC, hX⟩ := hW.1.2.2.2 hW.2
  have l1 := hW.2
  have G := hG.1
  have L := hL.2.2.2.1
  have V := hN.1
  have oi := imp_O (s := ((μ 24), (μ 25))) hG hL hN ⟨hO, hC⟩ r.toNat
  have le : xCa μ (imp μ ((μ 24), (μ 25)) r.toNat).2.2 ≤ xCa μ (μ 25) := imp_le (s := ((μ 24), (μ 25))) r.toNat
  obtain ⟨d, rfl⟩ := gD (show 1 ≤ D by omega)
  refine gC 300 [] rfl ?_
  (conv => whnf); try simp only [gO, gWe, ne_eq, Nat.reduceEqDiff, not_false_eq_true, true_or, or_true, true_and]
  repeat' (first | exact True.intro | (refine ⟨fun hb => ?_, fun hb => ?_⟩ <;> first | (exfalso; omega; done) | exact absurd True.intro hb | ((conv => whnf); try simp only [gO, gWe, ne_eq, Nat.reduceEqDiff, not_false_eq_true, true_or, or_true, true_and])) | (refine ⟨by omega, ?_⟩; (conv => whnf); try simp only [gO, gWe, ne_eq, Nat.reduceEqDiff, not_false_eq_true, true_or, or_true, true_and]) | (refine ⟨fun hb => ?_, ?_⟩ <;> first | (exfalso; omega; done) | exact absurd True.intro hb | ((conv => whnf); try simp only [gO, gWe, ne_eq, Nat.reduceEqDiff, not_false_eq_true, true_or, or_true, true_and])) | fail)
  refine t_45 (by omega) (fun ν₁ hν₁ hr => ?_)
  have s1 : hSt μ ν₁ := hν₁.st (by decide)
  (conv => whnf); try simp only [gO, gWe, ne_eq, Nat.reduceEqDiff, not_false_eq_true, true_or, or_true, true_and]
  repeat' (first | exact True.intro | (refine ⟨fun hb => ?_, fun hb => ?_⟩ <;> first | (exfalso; omega; done) | exact absurd True.intro hb | ((conv => whnf); try simp only [gO, gWe, ne_eq, Nat.reduceEqDiff, not_false_eq_true, true_or, or_true, true_and])) | (refine ⟨by omega, ?_⟩; (conv => whnf); try simp only [gO, gWe, ne_eq, Nat.reduceEqDiff, not_false_eq_true, true_or, or_true, true_and]) | (refine ⟨fun hb => ?_, ?_⟩ <;> first | (exfalso; omega; done) | exact absurd True.intro hb | ((conv => whnf); try simp only [gO, gWe, ne_eq, Nat.reduceEqDiff, not_false_eq_true, true_or, or_true, true_and])) | fail)
  have I1 := iH_go (s := ((μ 24), (μ 25))) s1 hG hL hN ⟨hO, hC⟩ (by rw [hν₁ 24 (by decide), hν₁ 25 (by decide)])
  refine t_64 (by omega) I1.1 I1.2 (by omega) (by omega) (fun ν₂ hν₂ hsq hO2 => ?_)
  have ic : imp ν₁ = imp μ := by
    funext s k
    induction k with
    | zero => rfl
    | succ k ih => unfold imp; rw [ih, xCa_c s1, sfA_c s1, swpA_c s1, s1 9 (by decide) (by decide)]
  rw [ic, hν₁ 24 (by decide), hν₁ 25 (by decide), s1 19 (by decide) (by decide)] at hsq
  rw [ic, xCa_c s1, hν₁ 24 (by decide), hν₁ 25 (by decide)]
  have f2 : gFr [24, 25, 26, 27, 28, 29, 30, 31, 32] μ ν₂ := (hν₁.mo (by decide)).tr (hν₂.mo (by decide))
  have hO2μ : iO μ (ν₂ 24) (ν₂ 25) := iO_c (fun c a b => (s1 c a b).symm) hO2
  have sO : iOC μ ((ν₂ 24), (ν₂ 25)) := ⟨hO2μ, fun z z0 z1 => iC_sc hG hL hN z0 z1 (oi.2.2 z z0 z1) hsq⟩
  have veq : xCa μ (ν₂ 25) = xCa μ (imp μ ((μ 24), (μ 25)) r.toNat).2.2 := xCa_e hG hL hN (fun v v0 v1 => iO_plu hG hL hN oi.2.1 hO2μ hsq v0 v1)
  rw [← veq] at le ⊢
  (conv => whnf); try simp only [gO, gWe, ne_eq, Nat.reduceEqDiff, not_false_eq_true, true_or, or_true, true_and]
  repeat' (first | exact True.intro | (refine ⟨fun hb => ?_, fun hb => ?_⟩ <;> first | (exfalso; omega; done) | exact absurd True.intro hb | ((conv => whnf); try simp only [gO, gWe, ne_eq, Nat.reduceEqDiff, not_false_eq_true, true_or, or_true, true_and])) | (refine ⟨by omega, ?_⟩; (conv => whnf); try simp only [gO, gWe, ne_eq, Nat.reduceEqDiff, not_false_eq_true, true_or, or_true, true_and]) | (refine ⟨fun hb => ?_, ?_⟩ <;> first | (exfalso; omega; done) | exact absurd True.intro hb | ((conv => whnf); try simp only [gO, gWe, ne_eq, Nat.reduceEqDiff, not_false_eq_true, true_or, or_true, true_and])) | fail)
  refine p_tail (by omega) hW hx f2 rfl sO (fun j j0 j1 => by rw [hν₂ 26 (by decide)]; exact hr j j0 j1) (fun ν₃ f3 e3 hW3 hx3 => ?_)
  have q3 : xCa ν₃ (ν₃ 25) = xCa μ (ν₂ 25) := by
    rw [xCa_c (f3.st (by decide)), show (ν₃ 25) = (ν₂ 25) from congrArg Prod.snd e3]
  have k := h ν₃ f3 hW3 hx3 (by rw [q3]; exact le)
  rw [q3] at k
  (conv => whnf); try simp only [gO, gWe, ne_eq, Nat.reduceEqDiff, not_false_eq_true, true_or, or_true, true_and]
  repeat' (first | exact True.intro | (refine ⟨fun hb => ?_, fun hb => ?_⟩ <;> first | (exfalso; omega; done) | exact absurd True.intro hb | ((conv => whnf); try simp only [gO, gWe, ne_eq, Nat.reduceEqDiff, not_false_eq_true, true_or, or_true, true_and])) | (refine ⟨by omega, ?_⟩; (conv => whnf); try simp only [gO, gWe, ne_eq, Nat.reduceEqDiff, not_false_eq_true, true_or, or_true, true_and]) | (refine ⟨fun hb => ?_, ?_⟩ <;> first | (exfalso; omega; done) | exact absurd True.intro hb | ((conv => whnf); try simp only [gO, gWe, ne_eq, Nat.reduceEqDiff, not_false_eq_true, true_or, or_true, true_and])) | fail)
  exact k
/-- the drawing is made -/
theorem p_89 {D : Nat} (hD : 36 ≤ D) {μ : MU} {Q : GQ} (hA : iA μ) (kf : 60 < (μ 1 0) + xTot μ - (μ 1 1) → Q (some (gI (-2))) g_SH μ) (h : ∀ ν : MU, gFr [0, 19, 20, 21, 22, 23, 24, 25, 28, 34] μ ν → (∀ j : Int, j ≠ 6 → ν 0 j = μ 0 j) → iW ν → iX ν → (ν 19 2) = (μ 1 0) + xTot μ - (μ 1 1) → Q (some (gI ((ν 19 2)))) g_SH ν) : gCall g_T g_F sN sX D 89 [gR 0] g_SH μ Q := by
  have hG := hA.1
  have hL := hA.2.1
  have G := hG.1
  have xb := hTot_b hG hL
  obtain ⟨d, rfl⟩ := gD (show 1 ≤ D by omega)
  refine gC 300 [] rfl ?_
  (conv => whnf); try simp only [gO, gWe, ne_eq, Nat.reduceEqDiff, not_false_eq_true, true_or, or_true, true_and]
  repeat' (first | exact True.intro | (refine ⟨fun hb => ?_, fun hb => ?_⟩ <;> first | (exfalso; omega; done) | exact absurd True.intro hb | ((conv => whnf); try simp only [gO, gWe, ne_eq, Nat.reduceEqDiff, not_false_eq_true, true_or, or_true, true_and])) | (refine ⟨by omega, ?_⟩; (conv => whnf); try simp only [gO, gWe, ne_eq, Nat.reduceEqDiff, not_false_eq_true, true_or, or_true, true_and]) | (refine ⟨fun hb => ?_, ?_⟩ <;> first | (exfalso; omega; done) | exact absurd True.intro hb | ((conv => whnf); try simp only [gO, gWe, ne_eq, Nat.reduceEqDiff, not_false_eq_true, true_or, or_true, true_and])) | fail)
  refine t_22 (by omega) hG hL ?_
  by_cases cf : 60 < (μ 1 0) + xTot μ - (μ 1 1)
  · have f := kf cf
    clear h kf
    (conv => whnf); try simp only [gO, gWe, ne_eq, Nat.reduceEqDiff, not_false_eq_true, true_or, or_true, true_and]
    repeat' (first | exact True.intro | (refine ⟨fun hb => ?_, fun hb => ?_⟩ <;> first | (exfalso; omega; done) | exact absurd True.intro hb | ((conv => whnf); try simp only [gO, gWe, ne_eq, Nat.reduceEqDiff, not_false_eq_true, true_or, or_true, true_and])) | (refine ⟨by omega, ?_⟩; (conv => whnf); try simp only [gO, gWe, ne_eq, Nat.reduceEqDiff, not_false_eq_true, true_or, or_true, true_and]) | (refine ⟨fun hb => ?_, ?_⟩ <;> first | (exfalso; omega; done) | exact absurd True.intro hb | ((conv => whnf); try simp only [gO, gWe, ne_eq, Nat.reduceEqDiff, not_false_eq_true, true_or, or_true, true_and])) | fail)
    exact f
  · clear kf
    (conv => whnf); try simp only [gO, gWe, ne_eq, Nat.reduceEqDiff, not_false_eq_true, true_or, or_true, true_and]
    repeat' (first | exact True.intro | (refine ⟨fun hb => ?_, fun hb => ?_⟩ <;> first | (exfalso; omega; done) | exact absurd True.intro hb | ((conv => whnf); try simp only [gO, gWe, ne_eq, Nat.reduceEqDiff, not_false_eq_true, true_or, or_true, true_and])) | (refine ⟨by omega, ?_⟩; (conv => whnf); try simp only [gO, gWe, ne_eq, Nat.reduceEqDiff, not_false_eq_true, true_or, or_true, true_and]) | (refine ⟨fun hb => ?_, ?_⟩ <;> first | (exfalso; omega; done) | exact absurd True.intro hb | ((conv => whnf); try simp only [gO, gWe, ne_eq, Nat.reduceEqDiff, not_false_eq_true, true_or, or_true, true_and])) | fail)
    refine t_35 (by omega) hG hL (by omega) (fun ν₁ s hν₁ hv hN hNm hs => ?_)
    have g1 : hSg μ ν₁ := fun c a b => hν₁ c (by simp only [List.mem_cons, List.not_mem_nil, or_false]; omega)
    have hG1 := iG_g g1 hG
    have hL1 := iL_g g1 hL
    have oc := clF_e hG1 hL1 hN hNm
    rw [← hs] at oc
    have oc1 : iO ν₁ (ν₁ 24) (ν₁ 25) := oc.1
    (conv => whnf); try simp only [gO, gWe, ne_eq, Nat.reduceEqDiff, not_false_eq_true, true_or, or_true, true_and]
    repeat' (first | exact True.intro | (refine ⟨fun hb => ?_, fun hb => ?_⟩ <;> first | (exfalso; omega; done) | exact absurd True.intro hb | ((conv => whnf); try simp only [gO, gWe, ne_eq, Nat.reduceEqDiff, not_false_eq_true, true_or, or_true, true_and])) | (refine ⟨by omega, ?_⟩; (conv => whnf); try simp only [gO, gWe, ne_eq, Nat.reduceEqDiff, not_false_eq_true, true_or, or_true, true_and]) | (refine ⟨fun hb => ?_, ?_⟩ <;> first | (exfalso; omega; done) | exact absurd True.intro hb | ((conv => whnf); try simp only [gO, gWe, ne_eq, Nat.reduceEqDiff, not_false_eq_true, true_or, or_true, true_and])) | fail)
    refine t_1 (by omega) hG1 hL1 hN (pl := (ν₁ 25)) oc1 (fun ν₂ hν₂ hl => ?_)
    have sν₂ : hSt ν₁ ν₂ := hν₂.st (by decide)
    (conv => whnf); try simp only [gO, gWe, ne_eq, Nat.reduceEqDiff, not_false_eq_true, true_or, or_true, true_and]
    repeat' (first | exact True.intro | (refine ⟨fun hb => ?_, fun hb => ?_⟩ <;> first | (exfalso; omega; done) | exact absurd True.intro hb | ((conv => whnf); try simp only [gO, gWe, ne_eq, Nat.reduceEqDiff, not_false_eq_true, true_or, or_true, true_and])) | (refine ⟨by omega, ?_⟩; (conv => whnf); try simp only [gO, gWe, ne_eq, Nat.reduceEqDiff, not_false_eq_true, true_or, or_true, true_and]) | (refine ⟨fun hb => ?_, ?_⟩ <;> first | (exfalso; omega; done) | exact absurd True.intro hb | ((conv => whnf); try simp only [gO, gWe, ne_eq, Nat.reduceEqDiff, not_false_eq_true, true_or, or_true, true_and])) | fail)
    (conv => whnf); try simp only [gO, gWe, ne_eq, Nat.reduceEqDiff, not_false_eq_true, true_or, or_true, true_and]
    repeat' (first | exact True.intro | (refine ⟨fun hb => ?_, fun hb => ?_⟩ <;> first | (exfalso; omega; done) | exact absurd True.intro hb | ((conv => whnf); try simp only [gO, gWe, ne_eq, Nat.reduceEqDiff, not_false_eq_true, true_or, or_true, true_and])) | (refine ⟨by omega, ?_⟩; (conv => whnf); try simp only [gO, gWe, ne_eq, Nat.reduceEqDiff, not_false_eq_true, true_or, or_true, true_and]) | (refine ⟨fun hb => ?_, ?_⟩ <;> first | (exfalso; omega; done) | exact absurd True.intro hb | ((conv => whnf); try simp only [gO, gWe, ne_eq, Nat.reduceEqDiff, not_false_eq_true, true_or, or_true, true_and])) | fail)
    have f0 : gFr [0, 19, 20, 21, 22, 23, 24, 25, 28, 34] μ (gW ν₂ 0 6 1) := ((hν₁.mo (by decide)).tr (hν₂.mo (by decide))).W (by decide)
    have l0 : gW ν₂ 0 6 1 0 6 = 1 := gWe _ _ _ _
    have s01 : hSt ν₁ (gW ν₂ 0 6 1) := fun c a b => (gO (show c ≠ 0 by omega)).trans (sν₂ c a b)
    have o1 : (gW ν₂ 0 6 1) 24 = (ν₁ 24) := hν₂ 24 (by decide)
    have o2 : (gW ν₂ 0 6 1) 25 = (ν₁ 25) := hν₂ 25 (by decide)
    have v2 : ν₂ 19 2 = (gW ν₂ 0 6 1) 19 2 := rfl
    have hl' : ∀ y k : Int, 0 ≤ y → y < (ν₁ 9 1) → (ν₁ 23) y ≤ k → k < (ν₁ 23) (y + 1) → (gW ν₂ 0 6 1) 34 ((ν₁ 24) k) = pkX ν₁ (ν₁ 24) y k := hl
    have j0 : ∀ j : Int, j ≠ 6 → gW ν₂ 0 6 1 0 j = μ 0 j := fun j hj => by
      rw [gWn _ _ _ hj, hν₂ 0 (by decide), hν₁ 0 (by decide)]
    rw [v2]
    generalize gW ν₂ 0 6 1 = ν at *
    have e19 : (ν 19 2) = (ν₁ 19 2) := by rw [s01 19 (by decide) (by decide)]
    refine h ν f0 j0 ?_ ?_ (by rw [e19]; exact hv)
    · refine ⟨⟨iG_c s01 hG1, iL_c s01 hL1, Or.inr l0, fun _ => ⟨iN_c s01 hN, by rw [o1, o2]; exact iO_c s01 oc1, fun y y0 y1 => ?_, fun v w0 w1 => ?_⟩⟩, l0⟩
      · rw [o1]
        rw [s01 9 (by decide) (by decide)] at y1
        exact iC_c s01 (oc.2 y y0 y1)
      · rw [e19] at w1
        have a := iO_v hG1 hL1 hN oc1 w0 w1
        have b := hl' ((ν₁ 21) v) ((ν₁ 23) ((ν₁ 21) v) + (ν₁ 25) v) a.1.1 a.1.2 (by omega) a.2.2.1.2.1
        have c := pkX_b hG1 hL1 hN oc1 (y := (ν₁ 21) v) (k := (ν₁ 23) ((ν₁ 21) v) + (ν₁ 25) v) a.1.1 a.1.2 (by omega) (by omega)
        rw [a.2.2.2] at b
        omega
    · intro y k y0 y1 k0 k1
      rw [s01 9 (by decide) (by decide)] at y1
      rw [s01 23 (by decide) (by decide)] at k0 k1
      have a := hl' y k y0 y1 k0 (by omega)
      have b := hl' y (k + 1) y0 y1 (by omega) k1
      rw [o1, xWd_c s01, a, b, pkX_s k0]
      omega
