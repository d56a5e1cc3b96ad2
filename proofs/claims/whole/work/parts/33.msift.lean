/-! the model sifts a vertex -/
def mftI (μ : MU) (s : GO) (v p found fewest K : Int) : Prop := (found = -1 ∧ ∀ q : Int, 0 ≤ q → q < p → ¬ iC μ (sftP μ s v q.toNat).1 ((μ 21) v)) ∨ ((0 ≤ found ∧ found < p) ∧ iC μ (sftP μ s v found.toNat).1 ((μ 21) v) ∧ fewest = sftC μ s v found.toNat + K ∧ ∀ q : Int, 0 ≤ q → q < p → iC μ (sftP μ s v q.toNat).1 ((μ 21) v) → sftC μ s v found.toNat ≤ sftC μ s v q.toNat ∧ (q < found → sftC μ s v found.toNat < sftC μ s v q.toNat))
theorem mftI_no {μ : MU} {s : GO} {v p found fewest K : Int} (h : mftI μ s v p found fewest K) (p0 : 0 ≤ p) (hn : ¬ iC μ (sftP μ s v p.toNat).1 ((μ 21) v)) : mftI μ s v (p + 1) found fewest K := by
  rcases h with ⟨h1, h3⟩ | ⟨h1, h2, h3, h4⟩
  · refine Or.inl ⟨h1, fun q q0 q1 => ?_⟩
    by_cases c : q = p
    · subst c; exact hn
    · exact h3 q q0 (by omega)
  · refine Or.inr ⟨by omega, h2, h3, fun q q0 q1 hq => ?_⟩
    by_cases c : q = p
    · subst c; exact absurd hq hn
    · exact h4 q q0 (by omega) hq
theorem mftI_le {μ : MU} {s : GO} {v p found fewest K : Int} (h : mftI μ s v p found fewest K) (p0 : 0 ≤ p) (hf : 0 ≤ found) (hc : fewest ≤ sftC μ s v p.toNat + K) : mftI μ s v (p + 1) found fewest K := by
  rcases h with ⟨h1, h3⟩ | ⟨h1, h2, h3, h4⟩
  · omega
  · refine Or.inr ⟨by omega, h2, h3, fun q q0 q1 hq => ?_⟩
    by_cases c : q = p
    · subst c; exact ⟨by omega, fun h => by omega⟩
    · exact h4 q q0 (by omega) hq
theorem mftI_lt {μ : MU} {s : GO} {v p found fewest K : Int} (h : mftI μ s v p found fewest K) (p0 : 0 ≤ p) (hc : found < 0 ∨ sftC μ s v p.toNat + K < fewest) (hy : iC μ (sftP μ s v p.toNat).1 ((μ 21) v)) : mftI μ s v (p + 1) p (sftC μ s v p.toNat + K) K := by
  refine Or.inr ⟨by omega, hy, rfl, fun q q0 q1 hq => ?_⟩
  by_cases c : q = p
  · subst c; exact ⟨Int.le_refl _, fun h => by omega⟩
  · rcases h with ⟨h1, h3⟩ | ⟨h1, h2, h3, h4⟩
    · exact absurd hq (h3 q q0 (by omega))
    · have := h4 q q0 (by omega) hq
      exact ⟨by omega, fun _ => by omega⟩
theorem mftI_end {μ : MU} {s : GO} {v found fewest K : Int} (hG : iG μ) (hL : iL μ) (hN : iN μ) (hO : iOC μ s) (v0 : 0 ≤ v) (v1 : v < (μ 19 2)) (h : mftI μ s v ((μ 23) ((μ 21) v + 1) - (μ 23) ((μ 21) v)) found fewest K) : hBest μ s v found := by
  obtain ⟨⟨y0, y1⟩, ⟨a0, a1⟩, ⟨b0, b1, b2⟩, b3⟩ := iO_v hG hL hN hO.1 v0 v1
  rcases h with ⟨h1, h3⟩ | ⟨h1, h2, h3, h4⟩
  · refine absurd ?_ (h3 (s.2 v) a0 (by omega))
    rw [sftP_a hG hL hN hO.1 v0 v1]
    exact hO.2 _ y0 y1
  · exact ⟨h1, h2, h4⟩
theorem t_191 {D : Nat} (hD : 8 ≤ D) {μ : MU} {Q : GQ} {v : Int} {s : GO} (hK : iK μ s.1 s.2) (hC : ∀ z : Int, 0 ≤ z → z < (μ 9 1) → iC μ s.1 z) (v0 : 0 ≤ v) (v1 : v < (μ 19 2)) (h : ∀ ν : MU, gFr [62, 72, 73] μ ν → hSo μ ν → iK ν (sft μ s v).1 (sft μ s v).2 → Q none g_SH ν) : gCall g_T g_F D 191 [gR 61, gI ((μ 20) v)] g_SH μ Q := by
  have hM := hK.1
  have hN := hK.2.1
  have hS := hK.2.2.1
  have hO := hK.2.2.2.1
  have hG := hM.1
  have hL := hM.2.1
  have L := hL.2.2.2.1
  have V := hN.1
  have hOC : iOC μ s := ⟨hO, hC⟩
  obtain ⟨⟨y0, y1⟩, ⟨a0, a1⟩, ⟨b0, b1, b2⟩, b3⟩ := iO_v hG hL hN hO v0 v1
  have sC := fun p hp => sftC_a hG hL hN hO v0 v1 p hp
  have sO := fun p hp => sftP_o hG hL hN hO v0 v1 p hp
  have cB := fun p => sftC_b (μ := μ) (s := s) (v := v) hG p
  have cA := fun (p : Nat) => xCa_b (pl := (sftP μ s v p).2) hG ((μ 9 1) - 1).toNat
  have mE := fun f w K => mftI_end (found := f) (fewest := w) (K := K) hG hL hN hOC v0 v1
  have sW : ∀ p : Nat, sw ((μ 23) ((μ 21) v)) (sftP μ s v p) p = sftP μ s v (p + 1) := fun p => by
    show _ = sw _ (sftP μ s v p) (0 + (p : Int))
    rw [show (0 : Int) + (p : Int) = p by omega]
  have s0 : gDn ((μ 23) ((μ 21) v)) s (s.2 v) (s.2 v).toNat = sftP μ s v 0 := rfl
  have sD : ∀ b : Int, hBest μ s v b → gDn ((μ 23) ((μ 21) v)) (sftP μ s v ((μ 23) ((μ 21) v + 1) - (μ 23) ((μ 21) v) - 1).toNat) ((μ 23) ((μ 21) v + 1) - (μ 23) ((μ 21) v) - 1) ((μ 23) ((μ 21) v + 1) - (μ 23) ((μ 21) v) - 1 - b).toNat = sft μ s v := fun b hb => by
    unfold sft
    rw [sftB_e hb]
  generalize gSum (fun z => if z = (μ 21) v - 1 ∨ z = (μ 21) v then 0 else xCb μ s.2 z) ((μ 9 1) - 1).toNat = K at sC
  generalize hy : (μ 21) v = y at *
  generalize hs : (μ 23) y = st at *
  generalize he : (μ 23) (y + 1) = en at *
  -- the third loop
  have l3 : ∀ d : Nat, 7 ≤ d → ∀ b : Int, hBest μ s v b → (0 ≤ b ∧ b < en - st) → ∀ p : Int, b ≤ p → p ≤ en - st - 1 → ∀ (ν : MU) (fewest : Int) (x z : GV), gFr [62, 72, 73] μ ν → hSo μ ν → iK ν (gDn st (sftP μ s v (en - st - 1).toNat) (en - st - 1) (en - st - 1 - p).toNat).1 (gDn st (sftP μ s v (en - st - 1).toNat) (en - st - 1) (en - st - 1 - p).toNat).2 → gG g_T g_F (gCall g_T g_F d) 0 (fun _ => 0) (g_T 191) Q 134 [gR 61, gI ((μ 20) v), gI y, gI p, gI b, gI fewest, gI (en - st), x, z] [] g_SH ν 0 0 := by
    intro d hd b hB hb
    refine g_dn (fun p p0 p1 ih ν fewest x z hν hso hk => ?_) (fun ν fewest x z hν hso hk => ?_)
    · have s1 : hSt μ ν := hν.st (by decide)
      have f1 : (ν 23) y = st := by rw [s1 23 (by decide) (by decide), hs]
      have f2 : (ν 23) (y + 1) = en := by rw [s1 23 (by decide) (by decide), he]
      have f9 : (ν 9 1) = (μ 9 1) := by rw [s1 9 (by decide) (by decide)]
      refine gB_gG [134] 300 ?_
      (conv => whnf); try simp only [gO, gWe, ne_eq, Nat.reduceEqDiff, not_false_eq_true, true_or, or_true, true_and]
      repeat' (first | exact True.intro | (refine ⟨fun hb => ?_, fun hb => ?_⟩ <;> first | (exfalso; omega; done) | exact absurd True.intro hb | ((conv => whnf); try simp only [gO, gWe, ne_eq, Nat.reduceEqDiff, not_false_eq_true, true_or, or_true, true_and])) | (refine ⟨by omega, ?_⟩; (conv => whnf); try simp only [gO, gWe, ne_eq, Nat.reduceEqDiff, not_false_eq_true, true_or, or_true, true_and]) | (refine ⟨fun hb => ?_, ?_⟩ <;> first | (exfalso; omega; done) | exact absurd True.intro hb | ((conv => whnf); try simp only [gO, gWe, ne_eq, Nat.reduceEqDiff, not_false_eq_true, true_or, or_true, true_and])) | fail)
      refine t_188 (by omega) hk y0 (by omega) (by omega) (by omega) (fun ρ hρ hso2 hk2 => ?_)
      rw [f1] at hk2
      (conv => whnf); try simp only [gO, gWe, ne_eq, Nat.reduceEqDiff, not_false_eq_true, true_or, or_true, true_and]
      repeat' (first | exact True.intro | (refine ⟨fun hb => ?_, fun hb => ?_⟩ <;> first | (exfalso; omega; done) | exact absurd True.intro hb | ((conv => whnf); try simp only [gO, gWe, ne_eq, Nat.reduceEqDiff, not_false_eq_true, true_or, or_true, true_and])) | (refine ⟨by omega, ?_⟩; (conv => whnf); try simp only [gO, gWe, ne_eq, Nat.reduceEqDiff, not_false_eq_true, true_or, or_true, true_and]) | (refine ⟨fun hb => ?_, ?_⟩ <;> first | (exfalso; omega; done) | exact absurd True.intro hb | ((conv => whnf); try simp only [gO, gWe, ne_eq, Nat.reduceEqDiff, not_false_eq_true, true_or, or_true, true_and])) | fail)
      refine ih ρ _ _ _ (hν.tr (hρ.mo (by decide))) (hso.tr hso2) ?_
      rw [show (en - st - 1 - (p - 1)).toNat = (en - st - 1 - p).toNat + 1 by omega]
      show iK ρ (swS _ _) (swP _ _ _ _)
      rw [show en - st - 1 - 1 - ((en - st - 1 - p).toNat : Int) = p - 1 by omega]
      exact hk2
    · rw [sD b hB] at hk
      refine gB_gG [] 300 ?_
      (conv => whnf); try simp only [gO, gWe, ne_eq, Nat.reduceEqDiff, not_false_eq_true, true_or, or_true, true_and]
      repeat' (first | exact True.intro | (refine ⟨fun hb => ?_, fun hb => ?_⟩ <;> first | (exfalso; omega; done) | exact absurd True.intro hb | ((conv => whnf); try simp only [gO, gWe, ne_eq, Nat.reduceEqDiff, not_false_eq_true, true_or, or_true, true_and])) | (refine ⟨by omega, ?_⟩; (conv => whnf); try simp only [gO, gWe, ne_eq, Nat.reduceEqDiff, not_false_eq_true, true_or, or_true, true_and]) | (refine ⟨fun hb => ?_, ?_⟩ <;> first | (exfalso; omega; done) | exact absurd True.intro hb | ((conv => whnf); try simp only [gO, gWe, ne_eq, Nat.reduceEqDiff, not_false_eq_true, true_or, or_true, true_and])) | fail)
      exact h ν hν hso hk
  -- the second loop
  have l2 : ∀ d : Nat, 7 ≤ d → ∀ p : Int, 0 ≤ p → p ≤ en - st → ∀ (ν : MU) (found fewest : Int) (x z : GV), gFr [62, 72, 73] μ ν → hSo μ ν → iK ν (sftP μ s v (min p (en - st - 1)).toNat).1 (sftP μ s v (min p (en - st - 1)).toNat).2 → mftI μ s v p found fewest K → gG g_T g_F (gCall g_T g_F d) 0 (fun _ => 0) (g_T 191) Q 43 [gR 61, gI ((μ 20) v), gI y, gI p, gI found, gI fewest, gI (en - st), x, z] [] g_SH ν 0 0 := by
    intro d hd
    refine g_up (fun p p0 p1 ih ν found fewest x z hν hso hk hI => ?_) (fun ν found fewest x z hν hso hk hI => ?_)
    · rw [show min p (en - st - 1) = p by omega] at hk
      -- one place further
      have nx : ∀ (ρ : MU) (found fewest : Int) (x z : GV), gFr [62, 72, 73] μ ρ → hSo μ ρ → iK ρ (sftP μ s v p.toNat).1 (sftP μ s v p.toNat).2 → mftI μ s v (p + 1) found fewest K → gG g_T g_F (gCall g_T g_F d) 0 (fun _ => 0) (g_T 191) Q 109 [gR 61, gI ((μ 20) v), gI y, gI p, gI found, gI fewest, gI (en - st), x, z] [] g_SH ρ 0 0 := by
        intro ρ found fewest x z hρ hso' hk' hI'
        have s1 : hSt μ ρ := hρ.st (by decide)
        have f1 : (ρ 23) y = st := by rw [s1 23 (by decide) (by decide), hs]
        have f2 : (ρ 23) (y + 1) = en := by rw [s1 23 (by decide) (by decide), he]
        have f9 : (ρ 9 1) = (μ 9 1) := by rw [s1 9 (by decide) (by decide)]
        by_cases c : p + 1 < en - st
        · refine gB_gG [43] 300 ?_
          (conv => whnf); try simp only [gO, gWe, ne_eq, Nat.reduceEqDiff, not_false_eq_true, true_or, or_true, true_and]
          repeat' (first | exact True.intro | (refine ⟨fun hb => ?_, fun hb => ?_⟩ <;> first | (exfalso; omega; done) | exact absurd True.intro hb | ((conv => whnf); try simp only [gO, gWe, ne_eq, Nat.reduceEqDiff, not_false_eq_true, true_or, or_true, true_and])) | (refine ⟨by omega, ?_⟩; (conv => whnf); try simp only [gO, gWe, ne_eq, Nat.reduceEqDiff, not_false_eq_true, true_or, or_true, true_and]) | (refine ⟨fun hb => ?_, ?_⟩ <;> first | (exfalso; omega; done) | exact absurd True.intro hb | ((conv => whnf); try simp only [gO, gWe, ne_eq, Nat.reduceEqDiff, not_false_eq_true, true_or, or_true, true_and])) | fail)
          refine t_188 (by omega) hk' y0 (by omega) (by omega) (by omega) (fun τ hτ hso2 hk2 => ?_)
          rw [f1] at hk2
          (conv => whnf); try simp only [gO, gWe, ne_eq, Nat.reduceEqDiff, not_false_eq_true, true_or, or_true, true_and]
          repeat' (first | exact True.intro | (refine ⟨fun hb => ?_, fun hb => ?_⟩ <;> first | (exfalso; omega; done) | exact absurd True.intro hb | ((conv => whnf); try simp only [gO, gWe, ne_eq, Nat.reduceEqDiff, not_false_eq_true, true_or, or_true, true_and])) | (refine ⟨by omega, ?_⟩; (conv => whnf); try simp only [gO, gWe, ne_eq, Nat.reduceEqDiff, not_false_eq_true, true_or, or_true, true_and]) | (refine ⟨fun hb => ?_, ?_⟩ <;> first | (exfalso; omega; done) | exact absurd True.intro hb | ((conv => whnf); try simp only [gO, gWe, ne_eq, Nat.reduceEqDiff, not_false_eq_true, true_or, or_true, true_and])) | fail)
          refine ih τ _ _ _ _ (hρ.tr (hτ.mo (by decide))) (hso'.tr hso2) ?_ hI'
          rw [show (min (p + 1) (en - st - 1)).toNat = p.toNat + 1 by omega, ← sW]
          show iK τ (swS _ _) (swP _ _ _ _)
          rw [show (p.toNat : Int) = p by omega]
          exact hk2
        · refine gB_gG [43] 300 ?_
          (conv => whnf); try simp only [gO, gWe, ne_eq, Nat.reduceEqDiff, not_false_eq_true, true_or, or_true, true_and]
          repeat' (first | exact True.intro | (refine ⟨fun hb => ?_, fun hb => ?_⟩ <;> first | (exfalso; omega; done) | exact absurd True.intro hb | ((conv => whnf); try simp only [gO, gWe, ne_eq, Nat.reduceEqDiff, not_false_eq_true, true_or, or_true, true_and])) | (refine ⟨by omega, ?_⟩; (conv => whnf); try simp only [gO, gWe, ne_eq, Nat.reduceEqDiff, not_false_eq_true, true_or, or_true, true_and]) | (refine ⟨fun hb => ?_, ?_⟩ <;> first | (exfalso; omega; done) | exact absurd True.intro hb | ((conv => whnf); try simp only [gO, gWe, ne_eq, Nat.reduceEqDiff, not_false_eq_true, true_or, or_true, true_and])) | fail)
          refine ih ρ _ _ _ _ hρ hso' ?_ hI'
          rw [show (min (p + 1) (en - st - 1)).toNat = p.toNat by omega]
          exact hk'
      have s1 : hSt μ ν := hν.st (by decide)
      have f9 : (ν 9 1) = (μ 9 1) := by rw [s1 9 (by decide) (by decide)]
      have ca := cA p.toNat
      have ce : xCa μ (sftP μ s v p.toNat).2 = sftC μ s v p.toNat + K := sC p.toNat (by omega)
      have ca2 : 0 ≤ xCa μ (sftP μ s v p.toNat).2 ∧ xCa μ (sftP μ s v p.toNat).2 ≤ 20000 := by
        unfold xCa
        omega
      clear ca
      have nf : (found < 0 → found = -1) := fun hf => by rcases hI with h1 | h1 <;> omega
      refine gB_gG [109] 300 ?_
      (conv => whnf); try simp only [gO, gWe, ne_eq, Nat.reduceEqDiff, not_false_eq_true, true_or, or_true, true_and]
      repeat' (first | exact True.intro | (refine ⟨fun hb => ?_, fun hb => ?_⟩ <;> first | (exfalso; omega; done) | exact absurd True.intro hb | ((conv => whnf); try simp only [gO, gWe, ne_eq, Nat.reduceEqDiff, not_false_eq_true, true_or, or_true, true_and])) | (refine ⟨by omega, ?_⟩; (conv => whnf); try simp only [gO, gWe, ne_eq, Nat.reduceEqDiff, not_false_eq_true, true_or, or_true, true_and]) | (refine ⟨fun hb => ?_, ?_⟩ <;> first | (exfalso; omega; done) | exact absurd True.intro hb | ((conv => whnf); try simp only [gO, gWe, ne_eq, Nat.reduceEqDiff, not_false_eq_true, true_or, or_true, true_and])) | fail)
      refine t_167 (by omega) hk y0 (by omega) (fun hc => ?_) (fun hc => ?_)
      · rw [iC_e s1, ← hy] at hc
        (conv => whnf); try simp only [gO, gWe, ne_eq, Nat.reduceEqDiff, not_false_eq_true, true_or, or_true, true_and]
        repeat' (first | exact True.intro | (refine ⟨fun hb => ?_, fun hb => ?_⟩ <;> first | (exfalso; omega; done) | exact absurd True.intro hb | ((conv => whnf); try simp only [gO, gWe, ne_eq, Nat.reduceEqDiff, not_false_eq_true, true_or, or_true, true_and])) | (refine ⟨by omega, ?_⟩; (conv => whnf); try simp only [gO, gWe, ne_eq, Nat.reduceEqDiff, not_false_eq_true, true_or, or_true, true_and]) | (refine ⟨fun hb => ?_, ?_⟩ <;> first | (exfalso; omega; done) | exact absurd True.intro hb | ((conv => whnf); try simp only [gO, gWe, ne_eq, Nat.reduceEqDiff, not_false_eq_true, true_or, or_true, true_and])) | fail)
        refine t_180 (by omega) hk (fun ρ hρ => ?_)
        rw [xCa_c s1, ce]
        have s2 : hSt ν ρ := hρ.st (by decide)
        have hk2 : iK ρ (sftP μ s v p.toNat).1 (sftP μ s v p.toNat).2 := iK_c s2 (hρ.sm (by decide) (by decide) (by decide)) (hρ 62 (by decide)) hk
        have fr : gFr [62, 72, 73] μ ρ := hν.tr (hρ.mo (by decide))
        have so : hSo μ ρ := hso.tr (hSo.fr hρ (by decide))
        by_cases hlt : found < 0 ∨ sftC μ s v p.toNat + K < fewest
        · have hI2 := mftI_lt hI p0 hlt hc
          (conv => whnf); try simp only [gO, gWe, ne_eq, Nat.reduceEqDiff, not_false_eq_true, true_or, or_true, true_and]
          repeat' (first | exact True.intro | (refine ⟨fun hb => ?_, fun hb => ?_⟩ <;> first | (exfalso; omega; done) | exact absurd True.intro hb | ((conv => whnf); try simp only [gO, gWe, ne_eq, Nat.reduceEqDiff, not_false_eq_true, true_or, or_true, true_and])) | (refine ⟨by omega, ?_⟩; (conv => whnf); try simp only [gO, gWe, ne_eq, Nat.reduceEqDiff, not_false_eq_true, true_or, or_true, true_and]) | (refine ⟨fun hb => ?_, ?_⟩ <;> first | (exfalso; omega; done) | exact absurd True.intro hb | ((conv => whnf); try simp only [gO, gWe, ne_eq, Nat.reduceEqDiff, not_false_eq_true, true_or, or_true, true_and])) | fail)
          · exact nx ρ _ _ _ _ fr so hk2 hI2
          · exact nx ρ _ _ _ _ fr so hk2 hI2
        · have hI2 := mftI_le hI p0 (by omega) (by omega)
          (conv => whnf); try simp only [gO, gWe, ne_eq, Nat.reduceEqDiff, not_false_eq_true, true_or, or_true, true_and]
          repeat' (first | exact True.intro | (refine ⟨fun hb => ?_, fun hb => ?_⟩ <;> first | (exfalso; omega; done) | exact absurd True.intro hb | ((conv => whnf); try simp only [gO, gWe, ne_eq, Nat.reduceEqDiff, not_false_eq_true, true_or, or_true, true_and])) | (refine ⟨by omega, ?_⟩; (conv => whnf); try simp only [gO, gWe, ne_eq, Nat.reduceEqDiff, not_false_eq_true, true_or, or_true, true_and]) | (refine ⟨fun hb => ?_, ?_⟩ <;> first | (exfalso; omega; done) | exact absurd True.intro hb | ((conv => whnf); try simp only [gO, gWe, ne_eq, Nat.reduceEqDiff, not_false_eq_true, true_or, or_true, true_and])) | fail)
          exact nx ρ _ _ _ _ fr so hk2 hI2
      · rw [iC_e s1, ← hy] at hc
        have hI2 := mftI_no hI p0 hc
        (conv => whnf); try simp only [gO, gWe, ne_eq, Nat.reduceEqDiff, not_false_eq_true, true_or, or_true, true_and]
        repeat' (first | exact True.intro | (refine ⟨fun hb => ?_, fun hb => ?_⟩ <;> first | (exfalso; omega; done) | exact absurd True.intro hb | ((conv => whnf); try simp only [gO, gWe, ne_eq, Nat.reduceEqDiff, not_false_eq_true, true_or, or_true, true_and])) | (refine ⟨by omega, ?_⟩; (conv => whnf); try simp only [gO, gWe, ne_eq, Nat.reduceEqDiff, not_false_eq_true, true_or, or_true, true_and]) | (refine ⟨fun hb => ?_, ?_⟩ <;> first | (exfalso; omega; done) | exact absurd True.intro hb | ((conv => whnf); try simp only [gO, gWe, ne_eq, Nat.reduceEqDiff, not_false_eq_true, true_or, or_true, true_and])) | fail)
        exact nx ν _ _ _ _ hν hso hk hI2
    · have hB := mE _ _ _ hI
      have hb1 := hB.1
      rw [hy, hs, he] at hb1
      rw [show min (en - st) (en - st - 1) = en - st - 1 by omega] at hk
      refine gB_gG [134] 300 ?_
      (conv => whnf); try simp only [gO, gWe, ne_eq, Nat.reduceEqDiff, not_false_eq_true, true_or, or_true, true_and]
      repeat' (first | exact True.intro | (refine ⟨fun hb => ?_, fun hb => ?_⟩ <;> first | (exfalso; omega; done) | exact absurd True.intro hb | ((conv => whnf); try simp only [gO, gWe, ne_eq, Nat.reduceEqDiff, not_false_eq_true, true_or, or_true, true_and])) | (refine ⟨by omega, ?_⟩; (conv => whnf); try simp only [gO, gWe, ne_eq, Nat.reduceEqDiff, not_false_eq_true, true_or, or_true, true_and]) | (refine ⟨fun hb => ?_, ?_⟩ <;> first | (exfalso; omega; done) | exact absurd True.intro hb | ((conv => whnf); try simp only [gO, gWe, ne_eq, Nat.reduceEqDiff, not_false_eq_true, true_or, or_true, true_and])) | fail)
      exact l3 d hd found hB hb1 (en - st - 1) (by omega) (by omega) ν _ _ _ hν hso (by rw [show (en - st - 1 - (en - st - 1)).toNat = 0 by omega]; exact hk)
  have l1 : ∀ d : Nat, 7 ≤ d → ∀ p : Int, 0 ≤ p → p ≤ s.2 v → ∀ (ν : MU) (x1 x2 x3 x4 x5 : GV), gFr [62, 72, 73] μ ν → hSo μ ν → iK ν (gDn st s (s.2 v) (s.2 v - p).toNat).1 (gDn st s (s.2 v) (s.2 v - p).toNat).2 → gG g_T g_F (gCall g_T g_F d) 0 (fun _ => 0) (g_T 191) Q 12 [gR 61, gI ((μ 20) v), gI y, gI p, x1, x2, x3, x4, x5] [] g_SH ν 0 0 := by
    intro d hd
    refine g_dn (fun p p0 p1 ih ν x1 x2 x3 x4 x5 hν hso hk => ?_) (fun ν x1 x2 x3 x4 x5 hν hso hk => ?_)
    · have s1 : hSt μ ν := hν.st (by decide)
      have f1 : (ν 23) y = st := by rw [s1 23 (by decide) (by decide), hs]
      have f2 : (ν 23) (y + 1) = en := by rw [s1 23 (by decide) (by decide), he]
      have f9 : (ν 9 1) = (μ 9 1) := by rw [s1 9 (by decide) (by decide)]
      refine gB_gG [12] 300 ?_
      (conv => whnf); try simp only [gO, gWe, ne_eq, Nat.reduceEqDiff, not_false_eq_true, true_or, or_true, true_and]
      repeat' (first | exact True.intro | (refine ⟨fun hb => ?_, fun hb => ?_⟩ <;> first | (exfalso; omega; done) | exact absurd True.intro hb | ((conv => whnf); try simp only [gO, gWe, ne_eq, Nat.reduceEqDiff, not_false_eq_true, true_or, or_true, true_and])) | (refine ⟨by omega, ?_⟩; (conv => whnf); try simp only [gO, gWe, ne_eq, Nat.reduceEqDiff, not_false_eq_true, true_or, or_true, true_and]) | (refine ⟨fun hb => ?_, ?_⟩ <;> first | (exfalso; omega; done) | exact absurd True.intro hb | ((conv => whnf); try simp only [gO, gWe, ne_eq, Nat.reduceEqDiff, not_false_eq_true, true_or, or_true, true_and])) | fail)
      refine t_188 (by omega) hk y0 (by omega) (by omega) (by omega) (fun ρ hρ hso2 hk2 => ?_)
      rw [f1] at hk2
      (conv => whnf); try simp only [gO, gWe, ne_eq, Nat.reduceEqDiff, not_false_eq_true, true_or, or_true, true_and]
      refine ih ρ _ _ _ _ _ (hν.tr (hρ.mo (by decide))) (hso.tr hso2) ?_
      rw [show (s.2 v - (p - 1)).toNat = (s.2 v - p).toNat + 1 by omega]
      show iK ρ (swS _ _) (swP _ _ _ _)
      rw [show s.2 v - 1 - ((s.2 v - p).toNat : Int) = p - 1 by omega]
      exact hk2
    · rw [show s.2 v - 0 = s.2 v by omega, s0] at hk
      have s1 : hSt μ ν := hν.st (by decide)
      have f1 : (ν 23) y = st := by rw [s1 23 (by decide) (by decide), hs]
      have f2 : (ν 23) (y + 1) = en := by rw [s1 23 (by decide) (by decide), he]
      have f9 : (ν 9 1) = (μ 9 1) := by rw [s1 9 (by decide) (by decide)]
      refine gB_gG [43] 300 ?_
      (conv => whnf); try simp only [gO, gWe, ne_eq, Nat.reduceEqDiff, not_false_eq_true, true_or, or_true, true_and]
      repeat' (first | exact True.intro | (refine ⟨fun hb => ?_, fun hb => ?_⟩ <;> first | (exfalso; omega; done) | exact absurd True.intro hb | ((conv => whnf); try simp only [gO, gWe, ne_eq, Nat.reduceEqDiff, not_false_eq_true, true_or, or_true, true_and])) | (refine ⟨by omega, ?_⟩; (conv => whnf); try simp only [gO, gWe, ne_eq, Nat.reduceEqDiff, not_false_eq_true, true_or, or_true, true_and]) | (refine ⟨fun hb => ?_, ?_⟩ <;> first | (exfalso; omega; done) | exact absurd True.intro hb | ((conv => whnf); try simp only [gO, gWe, ne_eq, Nat.reduceEqDiff, not_false_eq_true, true_or, or_true, true_and])) | fail)
      refine t_161 (by omega) hk.1 hk.2.1 hk.2.2.1 y0 (by omega) ?_
      rw [f1, f2]
      (conv => whnf); try simp only [gO, gWe, ne_eq, Nat.reduceEqDiff, not_false_eq_true, true_or, or_true, true_and]
      refine l2 d hd 0 (by omega) (by omega) ν _ _ _ _ hν hso ?_ (Or.inl ⟨rfl, fun q q0 q1 => by omega⟩)
      rw [show (min 0 (en - st - 1)).toNat = 0 by omega]
      exact hk
  obtain ⟨d, rfl⟩ := gD (show 1 ≤ D by omega)
  refine gC 300 [12] rfl ?_
  (conv => whnf); try simp only [gO, gWe, ne_eq, Nat.reduceEqDiff, not_false_eq_true, true_or, or_true, true_and]
  refine t_157 (by omega) hM hN v0 v1 ?_
  rw [hy]
  (conv => whnf); try simp only [gO, gWe, ne_eq, Nat.reduceEqDiff, not_false_eq_true, true_or, or_true, true_and]
  refine t_163 (by omega) hK v0 v1 ?_
  (conv => whnf); try simp only [gO, gWe, ne_eq, Nat.reduceEqDiff, not_false_eq_true, true_or, or_true, true_and]
  exact l1 d (by omega) (s.2 v) (by omega) (by omega) μ _ _ _ _ _ gFr.rf hSo.rf (by rw [show (s.2 v - s.2 v).toNat = 0 by omega]; exact hK)
