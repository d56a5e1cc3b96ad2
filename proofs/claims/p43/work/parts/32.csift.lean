variable {sN : Int} {sX : Int → Int}
/-! the class and the model sift a vertex -/
def sftI (μ : MU) (s : GO) (v p best fewest : Int) : Prop := (fewest = 1073741824 ∧ best = s.2 v ∧ ∀ q : Int, 0 ≤ q → q < p → ¬ iC μ (sftP μ s v q.toNat).1 ((μ 21) v)) ∨ ((0 ≤ best ∧ best < p) ∧ iC μ (sftP μ s v best.toNat).1 ((μ 21) v) ∧ fewest = sftC μ s v best.toNat ∧ ∀ q : Int, 0 ≤ q → q < p → iC μ (sftP μ s v q.toNat).1 ((μ 21) v) → sftC μ s v best.toNat ≤ sftC μ s v q.toNat ∧ (q < best → sftC μ s v best.toNat < sftC μ s v q.toNat))
theorem sftI_no {μ : MU} {s : GO} {v p best fewest : Int} (h : sftI μ s v p best fewest) (p0 : 0 ≤ p) (hn : ¬ iC μ (sftP μ s v p.toNat).1 ((μ 21) v)) : sftI μ s v (p + 1) best fewest := by
  rcases h with ⟨h1, h2, h3⟩ | ⟨h1, h2, h3, h4⟩
  · refine Or.inl ⟨h1, h2, fun q q0 q1 => ?_⟩
    by_cases c : q = p
    · subst c; exact hn
    · exact h3 q q0 (by omega)
  · refine Or.inr ⟨by omega, h2, h3, fun q q0 q1 hq => ?_⟩
    by_cases c : q = p
    · subst c; exact absurd hq hn
    · exact h4 q q0 (by omega) hq
theorem sftI_le {μ : MU} {s : GO} {v p best fewest : Int} (h : sftI μ s v p best fewest) (p0 : 0 ≤ p) (hc : fewest ≤ sftC μ s v p.toNat) (hb : sftC μ s v p.toNat ≤ 1000) : sftI μ s v (p + 1) best fewest := by
  rcases h with ⟨h1, h2, h3⟩ | ⟨h1, h2, h3, h4⟩
  · omega
  · refine Or.inr ⟨by omega, h2, h3, fun q q0 q1 hq => ?_⟩
    by_cases c : q = p
    · subst c; exact ⟨by omega, fun h => by omega⟩
    · exact h4 q q0 (by omega) hq
theorem sftI_lt {μ : MU} {s : GO} {v p best fewest : Int} (h : sftI μ s v p best fewest) (p0 : 0 ≤ p) (hc : sftC μ s v p.toNat < fewest) (hy : iC μ (sftP μ s v p.toNat).1 ((μ 21) v)) : sftI μ s v (p + 1) p (sftC μ s v p.toNat) := by
  refine Or.inr ⟨by omega, hy, rfl, fun q q0 q1 hq => ?_⟩
  by_cases c : q = p
  · subst c; exact ⟨Int.le_refl _, fun h => by omega⟩
  · rcases h with ⟨h1, h2, h3⟩ | ⟨h1, h2, h3, h4⟩
    · exact absurd hq (h3 q q0 (by omega))
    · have := h4 q q0 (by omega) hq
      exact ⟨by omega, fun _ => by omega⟩
theorem sftI_end {μ : MU} {s : GO} {v best fewest : Int} (hG : iG μ) (hL : iL μ) (hN : iN μ) (hO : iOC μ s) (v0 : 0 ≤ v) (v1 : v < (μ 19 2)) (h : sftI μ s v ((μ 23) ((μ 21) v + 1) - (μ 23) ((μ 21) v)) best fewest) : hBest μ s v best := by
  obtain ⟨⟨y0, y1⟩, ⟨a0, a1⟩, ⟨b0, b1, b2⟩, b3⟩ := iO_v hG hL hN hO.1 v0 v1
  rcases h with ⟨h1, h2, h3⟩ | ⟨h1, h2, h3, h4⟩
  · refine absurd ?_ (h3 (s.2 v) a0 (by omega))
    rw [sftP_a hG hL hN hO.1 v0 v1]
    exact hO.2 _ y0 y1
  · exact ⟨h1, h2, h4⟩
theorem sftC_b {μ : MU} {s : GO} {v : Int} (hG : iG μ) (p : Nat) : 0 ≤ sftC μ s v p ∧ sftC μ s v p ≤ 800 := by
  have a := xCb_b (pl := (sftP μ s v p).2) hG ((μ 21) v - 1)
  have b := xCb_b (pl := (sftP μ s v p).2) hG ((μ 21) v)
  unfold sftC
  omega
theorem sftP_mv {μ : MU} {s : GO} {v p : Int} (a0 : 0 ≤ s.2 v) (p0 : 0 < p) (hv : (sftP μ s v (p - 1).toNat).2 v = p - 1) : gMv ((μ 23) ((μ 21) v)) (sftP μ s v (p - 1).toNat) (p - 1) p = sftP μ s v p.toNat := by
  unfold gMv
  rw [if_neg (by omega), show (p - (p - 1)).toNat = 1 by omega, show p.toNat = (p - 1).toNat + 1 by omega]
  show sw _ (sftP μ s v (p - 1).toNat) (p - 1 + ((0 : Nat) : Int)) = sw _ (sftP μ s v (p - 1).toNat) (0 + ((p - 1).toNat : Int))
  rw [show p - 1 + ((0 : Nat) : Int) = 0 + ((p - 1).toNat : Int) by omega]
theorem sftP_0 {μ : MU} {s : GO} {v : Int} (a0 : 0 ≤ s.2 v) : gMv ((μ 23) ((μ 21) v)) s (s.2 v) 0 = sftP μ s v (0 : Int).toNat := by
  unfold gMv
  by_cases c : 0 < s.2 v
  · rw [if_pos c, show (s.2 v - 0).toNat = (s.2 v).toNat by omega]
    rfl
  · rw [if_neg c, show (0 - s.2 v).toNat = 0 by omega]
    unfold sftP
    rw [show (s.2 v).toNat = 0 by omega]
    rfl
theorem t_62 {D : Nat} (hD : 4 ≤ D) {μ : MU} {Q : GQ} {v : Int} (hH0 : iH μ) (hC : ∀ z : Int, 0 ≤ z → z < (μ 9 1) → iC μ (μ 24) z) (v0 : 0 ≤ v) (v1 : v < (μ 19 2)) (h : ∀ ν : MU, gFr [24, 25, 31, 32] μ ν → (∃ b, hBest μ ((μ 24), (μ 25)) v b) → ((ν 24), (ν 25)) = sft μ ((μ 24), (μ 25)) v → Q none g_SH ν) : gCall g_T g_F sN sX D 62 [gR 19, gI v] g_SH μ Q := by
  have hG := hH0.1
  have hL := hH0.2.1
  have hN := hH0.2.2.1
  have L := hL.2.2.2.1
  have V := hN.1
  have hOC : iOC μ ((μ 24), (μ 25)) := ⟨hH0.2.2.2, hC⟩
  obtain ⟨⟨y0, y1⟩, ⟨a0, a1⟩, ⟨b0, b1, b2⟩, b3⟩ := iO_v hG hL hN hH0.2.2.2 v0 v1
  obtain ⟨d, rfl⟩ := gD (show 1 ≤ D by omega)
  refine gC 300 [28] rfl ?_
  (conv => whnf); try simp only [gO, gWe, ne_eq, Nat.reduceEqDiff, not_false_eq_true, true_or, or_true, true_and]
  repeat' (first | exact True.intro | (refine ⟨fun hb => ?_, fun hb => ?_⟩ <;> first | (exfalso; omega; done) | exact absurd True.intro hb | ((conv => whnf); try simp only [gO, gWe, ne_eq, Nat.reduceEqDiff, not_false_eq_true, true_or, or_true, true_and])) | (refine ⟨by omega, ?_⟩; (conv => whnf); try simp only [gO, gWe, ne_eq, Nat.reduceEqDiff, not_false_eq_true, true_or, or_true, true_and]) | (refine ⟨fun hb => ?_, ?_⟩ <;> first | (exfalso; omega; done) | exact absurd True.intro hb | ((conv => whnf); try simp only [gO, gWe, ne_eq, Nat.reduceEqDiff, not_false_eq_true, true_or, or_true, true_and])) | fail)
  refine t_43 (by omega) hG hL hN y0 y1 ?_
  (conv => whnf); try simp only [gO, gWe, ne_eq, Nat.reduceEqDiff, not_false_eq_true, true_or, or_true, true_and]
  repeat' (first | exact True.intro | (refine ⟨fun hb => ?_, fun hb => ?_⟩ <;> first | (exfalso; omega; done) | exact absurd True.intro hb | ((conv => whnf); try simp only [gO, gWe, ne_eq, Nat.reduceEqDiff, not_false_eq_true, true_or, or_true, true_and])) | (refine ⟨by omega, ?_⟩; (conv => whnf); try simp only [gO, gWe, ne_eq, Nat.reduceEqDiff, not_false_eq_true, true_or, or_true, true_and]) | (refine ⟨fun hb => ?_, ?_⟩ <;> first | (exfalso; omega; done) | exact absurd True.intro hb | ((conv => whnf); try simp only [gO, gWe, ne_eq, Nat.reduceEqDiff, not_false_eq_true, true_or, or_true, true_and])) | fail)
  have key : ∀ p : Int, 0 ≤ p → p ≤ (μ 23) ((μ 21) v + 1) - (μ 23) ((μ 21) v) → ∀ (ν : MU) (best fewest : Int) (x : GV), gFr [24, 25, 31, 32] μ ν → (p = 0 → ((ν 24), (ν 25)) = ((μ 24), (μ 25))) → (0 < p → ((ν 24), (ν 25)) = sftP μ ((μ 24), (μ 25)) v (p - 1).toNat) → sftI μ ((μ 24), (μ 25)) v p best fewest → gG g_T g_F (gCall g_T g_F sN sX d) sN sX (g_T 62) Q 28 [gR 19, gI v, gI ((μ 21) v), gI best, gI fewest, gI ((μ 23) ((μ 21) v + 1) - (μ 23) ((μ 21) v)), gI p, x] [] g_SH ν 0 0 := by
    refine g_up (fun p p0 p1 ih ν best fewest x hν hs0 hs1 hI => ?_) (fun ν best fewest x hν hs0 hs1 hI => ?_)
    · have s1 : hSt μ ν := hν.st (by decide)
      have f21 : (ν 21) v = (μ 21) v := by rw [s1 21 (by decide) (by decide)]
      have f23 : (ν 23) = (μ 23) := s1 23 (by decide) (by decide)
      have f9 : (ν 9 1) = (μ 9 1) := by rw [s1 9 (by decide) (by decide)]
      have f19 : (ν 19 2) = (μ 19 2) := by rw [s1 19 (by decide) (by decide)]
      have f9l : (ν 21) v < (ν 9 1) := by omega
      have pv := sftP_o (s := ((μ 24), (μ 25))) hG hL hN hH0.2.2.2 v0 v1 p.toNat (by omega)
      have cb := sftC_b (μ := μ) (s := ((μ 24), (μ 25))) (v := v) hG p.toNat
      -- the state
      have st0 : iH ν ∧ gMv ((ν 23) ((ν 21) v)) ((ν 24), (ν 25)) ((ν 25) v) p = sftP μ ((μ 24), (μ 25)) v p.toNat := by
        by_cases hp : p = 0
        · subst hp
          have e := hs0 rfl
          have e2 : (ν 25) v = (μ 25) v := by have := congrArg Prod.snd e; exact congrFun this v
          refine ⟨iH_c s1 (congrArg Prod.fst e) (congrArg Prod.snd e) hH0, ?_⟩
          rw [e, e2, f21, f23]
          exact sftP_0 (s := ((μ 24), (μ 25))) a0
        · have e := hs1 (by omega)
          have pw := sftP_o (s := ((μ 24), (μ 25))) hG hL hN hH0.2.2.2 v0 v1 (p - 1).toNat (by omega)
          have e2 : (ν 25) v = p - 1 := by
            have := congrFun (congrArg Prod.snd e) v
            rw [pw.2.2.1] at this
            have t : (ν 25) v = ((p - 1).toNat : Int) := this
            omega
          refine ⟨⟨iG_c s1 hG, iL_c s1 hL, iN_c s1 hN, iO_c s1 ?_⟩, ?_⟩
          · have e3 : (ν 24) = _ := congrArg Prod.fst e
            have e4 : (ν 25) = _ := congrArg Prod.snd e
            rw [e3, e4]
            exact pw.1
          · rw [e, e2, f21, f23]
            exact sftP_mv (s := ((μ 24), (μ 25))) a0 (by omega) (by rw [pw.2.2.1]; omega)
      refine gB_gG [28] 300 ?_
      (conv => whnf); try simp only [gO, gWe, ne_eq, Nat.reduceEqDiff, not_false_eq_true, true_or, or_true, true_and]
      repeat' (first | exact True.intro | (refine ⟨fun hb => ?_, fun hb => ?_⟩ <;> first | (exfalso; omega; done) | exact absurd True.intro hb | ((conv => whnf); try simp only [gO, gWe, ne_eq, Nat.reduceEqDiff, not_false_eq_true, true_or, or_true, true_and])) | (refine ⟨by omega, ?_⟩; (conv => whnf); try simp only [gO, gWe, ne_eq, Nat.reduceEqDiff, not_false_eq_true, true_or, or_true, true_and]) | (refine ⟨fun hb => ?_, ?_⟩ <;> first | (exfalso; omega; done) | exact absurd True.intro hb | ((conv => whnf); try simp only [gO, gWe, ne_eq, Nat.reduceEqDiff, not_false_eq_true, true_or, or_true, true_and])) | fail)
      refine t_50 (by omega) st0.1 v0 (by omega) p0 (by rw [f21, f23]; omega) (fun ρ hρ hr hIr hvr => ?_)
      rw [st0.2] at hr
      have r1 : (ρ 24) = (sftP μ ((μ 24), (μ 25)) v p.toNat).1 := congrArg Prod.fst hr
      have r2 : (ρ 25) = (sftP μ ((μ 24), (μ 25)) v p.toNat).2 := congrArg Prod.snd hr
      have s2 : hSt μ ρ := s1.tr (hρ.st (by decide))
      have g9 : (ρ 9 1) = (μ 9 1) := by rw [s2 9 (by decide) (by decide)]
      have g21 : (ρ 21) v = (μ 21) v := by rw [s2 21 (by decide) (by decide)]
      clear st0 hs0 hs1 pv
      (conv => whnf); try simp only [gO, gWe, ne_eq, Nat.reduceEqDiff, not_false_eq_true, true_or, or_true, true_and]
      refine t_53 (by omega) hIr y0 (by omega) (fun hc => ?_) (fun hc => ?_)
      · rw [iC_e s2, r1] at hc
        have cbs := xCb_b (pl := (sftP μ ((μ 24), (μ 25)) v p.toNat).2) hG ((μ 21) v - 1)
        have cbt := xCb_b (pl := (sftP μ ((μ 24), (μ 25)) v p.toNat).2) hG ((μ 21) v)
        have cdef : xCb μ (sftP μ ((μ 24), (μ 25)) v p.toNat).2 ((μ 21) v - 1) + xCb μ (sftP μ ((μ 24), (μ 25)) v p.toNat).2 ((μ 21) v) = sftC μ ((μ 24), (μ 25)) v p.toNat := rfl
        (conv => whnf); try simp only [gO, gWe, ne_eq, Nat.reduceEqDiff, not_false_eq_true, true_or, or_true, true_and]
        repeat' (first | exact True.intro | (refine ⟨fun hb => ?_, fun hb => ?_⟩ <;> first | (exfalso; omega; done) | exact absurd True.intro hb | ((conv => whnf); try simp only [gO, gWe, ne_eq, Nat.reduceEqDiff, not_false_eq_true, true_or, or_true, true_and])) | (refine ⟨by omega, ?_⟩; (conv => whnf); try simp only [gO, gWe, ne_eq, Nat.reduceEqDiff, not_false_eq_true, true_or, or_true, true_and]) | (refine ⟨fun hb => ?_, ?_⟩ <;> first | (exfalso; omega; done) | exact absurd True.intro hb | ((conv => whnf); try simp only [gO, gWe, ne_eq, Nat.reduceEqDiff, not_false_eq_true, true_or, or_true, true_and])) | fail)
        refine t_55 (by omega) hIr (by omega) (fun ρ₁ hρ₁ => ?_)
        have s3 : hSt μ ρ₁ := s2.tr (hρ₁.st (by decide))
        rw [xCb_c s2, r2]
        (conv => whnf); try simp only [gO, gWe, ne_eq, Nat.reduceEqDiff, not_false_eq_true, true_or, or_true, true_and]
        refine t_55 (by omega) (iH_c (hρ₁.st (by decide)) (hρ₁ 24 (by decide)) (hρ₁ 25 (by decide)) hIr) (by omega) (fun ρ₂ hρ₂ => ?_)
        rw [xCb_c s3, hρ₁ 25 (by decide), r2]
        have fr : gFr [24, 25, 31, 32] μ ρ₂ := ((hν.tr (hρ.mo (by decide))).tr (hρ₁.mo (by decide))).tr (hρ₂.mo (by decide))
        have e2 : ((ρ₂ 24), (ρ₂ 25)) = sftP μ ((μ 24), (μ 25)) v p.toNat := by rw [hρ₂ 24 (by decide), hρ₂ 25 (by decide), hρ₁ 24 (by decide), hρ₁ 25 (by decide)]; exact hr
        (conv => whnf); try simp only [gO, gWe, ne_eq, Nat.reduceEqDiff, not_false_eq_true, true_or, or_true, true_and]
        repeat' (first | exact True.intro | (refine ⟨fun hb => ?_, fun hb => ?_⟩ <;> first | (exfalso; omega; done) | exact absurd True.intro hb | ((conv => whnf); try simp only [gO, gWe, ne_eq, Nat.reduceEqDiff, not_false_eq_true, true_or, or_true, true_and])) | (refine ⟨by omega, ?_⟩; (conv => whnf); try simp only [gO, gWe, ne_eq, Nat.reduceEqDiff, not_false_eq_true, true_or, or_true, true_and]) | (refine ⟨fun hb => ?_, ?_⟩ <;> first | (exfalso; omega; done) | exact absurd True.intro hb | ((conv => whnf); try simp only [gO, gWe, ne_eq, Nat.reduceEqDiff, not_false_eq_true, true_or, or_true, true_and])) | fail)
        · rw [cdef] at hb ⊢
          refine ih ρ₂ best fewest _ fr (fun h => by omega) (fun _ => by rw [show (p + 1 - 1).toNat = p.toNat by omega]; exact e2) (sftI_le hI p0 (by omega) (by omega))
        · rw [cdef] at hb ⊢
          refine ih ρ₂ p _ _ fr (fun h => by omega) (fun _ => by rw [show (p + 1 - 1).toNat = p.toNat by omega]; exact e2) (sftI_lt hI p0 (by omega) hc)
      · rw [iC_e s2, r1] at hc
        (conv => whnf); try simp only [gO, gWe, ne_eq, Nat.reduceEqDiff, not_false_eq_true, true_or, or_true, true_and]
        repeat' (first | exact True.intro | (refine ⟨fun hb => ?_, fun hb => ?_⟩ <;> first | (exfalso; omega; done) | exact absurd True.intro hb | ((conv => whnf); try simp only [gO, gWe, ne_eq, Nat.reduceEqDiff, not_false_eq_true, true_or, or_true, true_and])) | (refine ⟨by omega, ?_⟩; (conv => whnf); try simp only [gO, gWe, ne_eq, Nat.reduceEqDiff, not_false_eq_true, true_or, or_true, true_and]) | (refine ⟨fun hb => ?_, ?_⟩ <;> first | (exfalso; omega; done) | exact absurd True.intro hb | ((conv => whnf); try simp only [gO, gWe, ne_eq, Nat.reduceEqDiff, not_false_eq_true, true_or, or_true, true_and])) | fail)
        exact ih ρ best fewest x (hν.tr (hρ.mo (by decide))) (fun h => by omega) (fun _ => by rw [show (p + 1 - 1).toNat = p.toNat by omega]; exact hr) (sftI_no hI p0 hc)
    · have hB := sftI_end hG hL hN hOC v0 v1 hI
      have s1 : hSt μ ν := hν.st (by decide)
      have f21 : (ν 21) v = (μ 21) v := by rw [s1 21 (by decide) (by decide)]
      have f23 : (ν 23) = (μ 23) := s1 23 (by decide) (by decide)
      have f19 : (ν 19 2) = (μ 19 2) := by rw [s1 19 (by decide) (by decide)]
      have e := hs1 (by omega)
      have pw := sftP_o (s := ((μ 24), (μ 25))) hG hL hN hH0.2.2.2 v0 v1 ((μ 23) ((μ 21) v + 1) - (μ 23) ((μ 21) v) - 1).toNat (by omega)
      have e3 : (ν 24) = _ := congrArg Prod.fst e
      have e4 : (ν 25) = _ := congrArg Prod.snd e
      have e2 : (ν 25) v = (μ 23) ((μ 21) v + 1) - (μ 23) ((μ 21) v) - 1 := by rw [e4, pw.2.2.1]; omega
      have hIν : iH ν := ⟨iG_c s1 hG, iL_c s1 hL, iN_c s1 hN, iO_c s1 (by rw [e3, e4]; exact pw.1)⟩
      have hb1 := hB.1
      clear hs0 hs1
      refine gB_gG [] 300 ?_
      (conv => whnf); try simp only [gO, gWe, ne_eq, Nat.reduceEqDiff, not_false_eq_true, true_or, or_true, true_and]
      repeat' (first | exact True.intro | (refine ⟨fun hb => ?_, fun hb => ?_⟩ <;> first | (exfalso; omega; done) | exact absurd True.intro hb | ((conv => whnf); try simp only [gO, gWe, ne_eq, Nat.reduceEqDiff, not_false_eq_true, true_or, or_true, true_and])) | (refine ⟨by omega, ?_⟩; (conv => whnf); try simp only [gO, gWe, ne_eq, Nat.reduceEqDiff, not_false_eq_true, true_or, or_true, true_and]) | (refine ⟨fun hb => ?_, ?_⟩ <;> first | (exfalso; omega; done) | exact absurd True.intro hb | ((conv => whnf); try simp only [gO, gWe, ne_eq, Nat.reduceEqDiff, not_false_eq_true, true_or, or_true, true_and])) | fail)
      refine t_50 (by omega) hIν v0 (by omega) hb1.1 (by rw [f21, f23]; omega) (fun ρ hρ hr hIr hvr => ?_)
      (conv => whnf); try simp only [gO, gWe, ne_eq, Nat.reduceEqDiff, not_false_eq_true, true_or, or_true, true_and]
      refine h ρ (hν.tr (hρ.mo (by decide))) ⟨best, hB⟩ ?_
      rw [hr, e2, f21, f23, e]
      unfold sft gMv
      rw [sftB_e hB]
      by_cases c : best < (μ 23) ((μ 21) v + 1) - (μ 23) ((μ 21) v) - 1
      · rw [if_pos c]
      · rw [if_neg c, show (best - ((μ 23) ((μ 21) v + 1) - (μ 23) ((μ 21) v) - 1)).toNat = 0 by omega, show ((μ 23) ((μ 21) v + 1) - (μ 23) ((μ 21) v) - 1 - best).toNat = 0 by omega]
        rfl
  exact key 0 (by omega) (by omega) μ _ _ _ gFr.rf (fun _ => rfl) (fun h => by omega) (Or.inl ⟨rfl, rfl, fun q q0 q1 => by omega⟩)
