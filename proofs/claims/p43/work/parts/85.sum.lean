variable {sN : Int} {sX : Int → Int}
/-! the case checksum -/
def hE1 (μ : MU) (h : Int) : Nat → Int
  | 0 => h
  | k + 1 => 31 * (31 * hE1 μ h k + (μ 10) k) + ((μ 15) k - (μ 14) k)
def hN1 (μ : MU) (h : Int) : Nat → Int
  | 0 => h
  | k + 1 => 31 * hN1 μ h k + (μ 13) k
def hV1 (μ : MU) (h : Int) : Nat → Int
  | 0 => h
  | k + 1 => 31 * (31 * hV1 μ h k + (μ 20) ((μ 24) k)) + (μ 34) ((μ 24) k)
def hS1 (μ : MU) : Int := 31 * (31 * hN1 μ (hE1 μ (31 * (31 * 53 + (μ 1 0)) + (μ 1 1)) (μ 1 1).toNat) (μ 1 0).toNat + (μ 9 1)) + xTot μ
def hS2 (μ : MU) : Int := hV1 μ (31 * (31 * (31 * hS1 μ + xCa μ (μ 25)) + hMx (xRt μ) (μ 19 2).toNat) + xSpr μ) (μ 19 2).toNat
theorem t_115 {D : Nat} (hD : 8 ≤ D) {μ : MU} {Q : GQ} {h : Int} (hH0 : iH μ) (hX : hLB μ) (k : ∀ ν : MU, gFr [31, 32] μ ν → Q (some (gL (hV1 μ (31 * (31 * (31 * h + xCa μ (μ 25)) + hMx (xRt μ) (μ 19 2).toNat) + xSpr μ) (μ 19 2).toNat))) g_SH ν) : gCall g_T g_F sN sX D 115 [gR 0, gL h] g_SH μ Q := by
  have hG := hH0.1
  have hL := hH0.2.1
  have hN := hH0.2.2.1
  have hO := hH0.2.2.2
  have V := hN.1
  have G := hG.1
  obtain ⟨d, rfl⟩ := gD (show 1 ≤ D by omega)
  refine gC 300 [50] rfl ?_
  (conv => whnf); try simp only [gO, gWe, ne_eq, Nat.reduceEqDiff, not_false_eq_true, true_or, or_true, true_and]
  refine t_56 (by omega) hH0 (fun ν hν => ?_)
  have st : hSt μ ν := hν.st (by decide)
  have v9 : (ν 19 2) = (μ 19 2) := by rw [st 19 (by decide) (by decide)]
  have hGν := iG_c st hG
  have xr : xRt ν = xRt μ := by funext v; unfold xRt; rw [xWd_c st, hν 34 (by decide)]
  have hXν : hLB ν := fun v v0 v1 => by rw [hν 34 (by decide)]; exact hX v v0 (by omega)
  (conv => whnf); try simp only [gO, gWe, ne_eq, Nat.reduceEqDiff, not_false_eq_true, true_or, or_true, true_and]
  repeat' (first | exact True.intro | (refine ⟨fun hb => ?_, fun hb => ?_⟩ <;> first | (exfalso; omega; done) | exact absurd True.intro hb | ((conv => whnf); try simp only [gO, gWe, ne_eq, Nat.reduceEqDiff, not_false_eq_true, true_or, or_true, true_and])) | (refine ⟨by omega, ?_⟩; (conv => whnf); try simp only [gO, gWe, ne_eq, Nat.reduceEqDiff, not_false_eq_true, true_or, or_true, true_and]) | (refine ⟨fun hb => ?_, ?_⟩ <;> first | (exfalso; omega; done) | exact absurd True.intro hb | ((conv => whnf); try simp only [gO, gWe, ne_eq, Nat.reduceEqDiff, not_false_eq_true, true_or, or_true, true_and])) | fail)
  refine t_6 (by omega) hGν (by omega) hXν ?_
  rw [xr, v9]
  (conv => whnf); try simp only [gO, gWe, ne_eq, Nat.reduceEqDiff, not_false_eq_true, true_or, or_true, true_and]
  repeat' (first | exact True.intro | (refine ⟨fun hb => ?_, fun hb => ?_⟩ <;> first | (exfalso; omega; done) | exact absurd True.intro hb | ((conv => whnf); try simp only [gO, gWe, ne_eq, Nat.reduceEqDiff, not_false_eq_true, true_or, or_true, true_and])) | (refine ⟨by omega, ?_⟩; (conv => whnf); try simp only [gO, gWe, ne_eq, Nat.reduceEqDiff, not_false_eq_true, true_or, or_true, true_and]) | (refine ⟨fun hb => ?_, ?_⟩ <;> first | (exfalso; omega; done) | exact absurd True.intro hb | ((conv => whnf); try simp only [gO, gWe, ne_eq, Nat.reduceEqDiff, not_false_eq_true, true_or, or_true, true_and])) | fail)
  refine t_8 (by omega) hGν (iL_c st hL) (iN_c st hN) hXν ?_
  rw [xSpr_c st (hν 34 (by decide))]
  (conv => whnf); try simp only [gO, gWe, ne_eq, Nat.reduceEqDiff, not_false_eq_true, true_or, or_true, true_and]
  repeat' (first | exact True.intro | (refine ⟨fun hb => ?_, fun hb => ?_⟩ <;> first | (exfalso; omega; done) | exact absurd True.intro hb | ((conv => whnf); try simp only [gO, gWe, ne_eq, Nat.reduceEqDiff, not_false_eq_true, true_or, or_true, true_and])) | (refine ⟨by omega, ?_⟩; (conv => whnf); try simp only [gO, gWe, ne_eq, Nat.reduceEqDiff, not_false_eq_true, true_or, or_true, true_and]) | (refine ⟨fun hb => ?_, ?_⟩ <;> first | (exfalso; omega; done) | exact absurd True.intro hb | ((conv => whnf); try simp only [gO, gWe, ne_eq, Nat.reduceEqDiff, not_false_eq_true, true_or, or_true, true_and])) | fail)
  have fin := k ν hν
  generalize 31 * (31 * (31 * h + xCa μ (μ 25)) + hMx (xRt μ) (μ 19 2).toNat) + xSpr μ = h0 at *
  have key : ∀ i : Int, 0 ≤ i → i ≤ (μ 19 2) → ∀ x : GV, gG g_T g_F (gCall g_T g_F sN sX d) sN sX (g_T 115) Q 50 [gR 0, gL h, gN 2, gL (hV1 μ h0 i.toNat), gN 2, gI i, x] [] g_SH ν 0 0 := by
    refine g_up (fun i i0 i1 ih x => ?_) (fun x => ?_)
    · have o := (iO_k hG hL hN hO i0 i1).1
      have e1 : (ν 24) = (μ 24) := hν 24 (by decide)
      have e2 : (ν 20) = (μ 20) := st 20 (by decide) (by decide)
      have e3 : (ν 34) = (μ 34) := hν 34 (by decide)
      rw [show (i + 1).toNat = i.toNat + 1 by omega, show hV1 μ h0 (i.toNat + 1) = 31 * (31 * hV1 μ h0 i.toNat + (μ 20) ((μ 24) ((i.toNat : Nat) : Int))) + (μ 34) ((μ 24) ((i.toNat : Nat) : Int)) from rfl, show ((i.toNat : Nat) : Int) = i by omega] at ih
      rw [← e1, ← e2, ← e3] at ih
      rw [← e1] at o
      have i2 := ih (gI ((ν 24) i))
      clear ih
      generalize hV1 μ h0 i.toNat = hv at *
      refine gB_gG [50] 300 ?_
      (conv => whnf); try simp only [gO, gWe, ne_eq, Nat.reduceEqDiff, not_false_eq_true, true_or, or_true, true_and]
      repeat' (first | exact True.intro | (refine ⟨fun hb => ?_, fun hb => ?_⟩ <;> first | (exfalso; omega; done) | exact absurd True.intro hb | ((conv => whnf); try simp only [gO, gWe, ne_eq, Nat.reduceEqDiff, not_false_eq_true, true_or, or_true, true_and])) | (refine ⟨by omega, ?_⟩; (conv => whnf); try simp only [gO, gWe, ne_eq, Nat.reduceEqDiff, not_false_eq_true, true_or, or_true, true_and]) | (refine ⟨fun hb => ?_, ?_⟩ <;> first | (exfalso; omega; done) | exact absurd True.intro hb | ((conv => whnf); try simp only [gO, gWe, ne_eq, Nat.reduceEqDiff, not_false_eq_true, true_or, or_true, true_and])) | fail)
      exact i2
    · refine gB_gG [50] 300 ?_
      (conv => whnf); try simp only [gO, gWe, ne_eq, Nat.reduceEqDiff, not_false_eq_true, true_or, or_true, true_and]
      repeat' (first | exact True.intro | (refine ⟨fun hb => ?_, fun hb => ?_⟩ <;> first | (exfalso; omega; done) | exact absurd True.intro hb | ((conv => whnf); try simp only [gO, gWe, ne_eq, Nat.reduceEqDiff, not_false_eq_true, true_or, or_true, true_and])) | (refine ⟨by omega, ?_⟩; (conv => whnf); try simp only [gO, gWe, ne_eq, Nat.reduceEqDiff, not_false_eq_true, true_or, or_true, true_and]) | (refine ⟨fun hb => ?_, ?_⟩ <;> first | (exfalso; omega; done) | exact absurd True.intro hb | ((conv => whnf); try simp only [gO, gWe, ne_eq, Nat.reduceEqDiff, not_false_eq_true, true_or, or_true, true_and])) | fail)
      exact fin
  exact key 0 (by omega) (by omega) _
theorem t_114 {D : Nat} (hD : 10 ≤ D) {μ : MU} {Q : GQ} (hG : iG μ) (hL : iL μ) (l01 : (μ 0 6) = 0 ∨ (μ 0 6) = 1) (hd : (μ 0 6) = 1 → iH μ ∧ hLB μ) (k0 : (μ 0 6) = 0 → Q (some (gL (hS1 μ))) g_SH μ) (k1 : (μ 0 6) = 1 → ∀ ν : MU, gFr [31, 32] μ ν → Q (some (gL (hS2 μ))) g_SH ν) : gCall g_T g_F sN sX D 114 [gR 0] g_SH μ Q := by
  have G := hG.1
  have fin : ∀ {d : Nat}, 9 ≤ d → gG g_T g_F (gCall g_T g_F sN sX d) sN sX (g_T 114) Q 96 [gR 0, gL (hN1 μ (hE1 μ (31 * (31 * 53 + (μ 1 0)) + (μ 1 1)) (μ 1 1).toNat) (μ 1 0).toNat), gN 2, gI (μ 1 0)] [] g_SH μ 0 0 := by
    intro d hd0
    have tb := hTot_b hG hL
    have L := hL.2.2.2.1
    rcases l01 with c | c
    · have f := k0 c
      unfold hS1 at f
      clear k0 k1 hd
      refine gB_gG [96] 300 ?_
      (conv => whnf); try simp only [gO, gWe, ne_eq, Nat.reduceEqDiff, not_false_eq_true, true_or, or_true, true_and]
      repeat' (first | exact True.intro | (refine ⟨fun hb => ?_, fun hb => ?_⟩ <;> first | (exfalso; omega; done) | exact absurd True.intro hb | ((conv => whnf); try simp only [gO, gWe, ne_eq, Nat.reduceEqDiff, not_false_eq_true, true_or, or_true, true_and])) | (refine ⟨by omega, ?_⟩; (conv => whnf); try simp only [gO, gWe, ne_eq, Nat.reduceEqDiff, not_false_eq_true, true_or, or_true, true_and]) | (refine ⟨fun hb => ?_, ?_⟩ <;> first | (exfalso; omega; done) | exact absurd True.intro hb | ((conv => whnf); try simp only [gO, gWe, ne_eq, Nat.reduceEqDiff, not_false_eq_true, true_or, or_true, true_and])) | fail)
      refine t_22 (by omega) hG hL ?_
      (conv => whnf); try simp only [gO, gWe, ne_eq, Nat.reduceEqDiff, not_false_eq_true, true_or, or_true, true_and]
      repeat' (first | exact True.intro | (refine ⟨fun hb => ?_, fun hb => ?_⟩ <;> first | (exfalso; omega; done) | exact absurd True.intro hb | ((conv => whnf); try simp only [gO, gWe, ne_eq, Nat.reduceEqDiff, not_false_eq_true, true_or, or_true, true_and])) | (refine ⟨by omega, ?_⟩; (conv => whnf); try simp only [gO, gWe, ne_eq, Nat.reduceEqDiff, not_false_eq_true, true_or, or_true, true_and]) | (refine ⟨fun hb => ?_, ?_⟩ <;> first | (exfalso; omega; done) | exact absurd True.intro hb | ((conv => whnf); try simp only [gO, gWe, ne_eq, Nat.reduceEqDiff, not_false_eq_true, true_or, or_true, true_and])) | fail)
      exact f
    · obtain ⟨hH0, hX⟩ := hd c
      have f := k1 c
      unfold hS2 hS1 at f
      clear k0 k1 hd
      refine gB_gG [96] 300 ?_
      (conv => whnf); try simp only [gO, gWe, ne_eq, Nat.reduceEqDiff, not_false_eq_true, true_or, or_true, true_and]
      repeat' (first | exact True.intro | (refine ⟨fun hb => ?_, fun hb => ?_⟩ <;> first | (exfalso; omega; done) | exact absurd True.intro hb | ((conv => whnf); try simp only [gO, gWe, ne_eq, Nat.reduceEqDiff, not_false_eq_true, true_or, or_true, true_and])) | (refine ⟨by omega, ?_⟩; (conv => whnf); try simp only [gO, gWe, ne_eq, Nat.reduceEqDiff, not_false_eq_true, true_or, or_true, true_and]) | (refine ⟨fun hb => ?_, ?_⟩ <;> first | (exfalso; omega; done) | exact absurd True.intro hb | ((conv => whnf); try simp only [gO, gWe, ne_eq, Nat.reduceEqDiff, not_false_eq_true, true_or, or_true, true_and])) | fail)
      refine t_22 (by omega) hG hL ?_
      (conv => whnf); try simp only [gO, gWe, ne_eq, Nat.reduceEqDiff, not_false_eq_true, true_or, or_true, true_and]
      repeat' (first | exact True.intro | (refine ⟨fun hb => ?_, fun hb => ?_⟩ <;> first | (exfalso; omega; done) | exact absurd True.intro hb | ((conv => whnf); try simp only [gO, gWe, ne_eq, Nat.reduceEqDiff, not_false_eq_true, true_or, or_true, true_and])) | (refine ⟨by omega, ?_⟩; (conv => whnf); try simp only [gO, gWe, ne_eq, Nat.reduceEqDiff, not_false_eq_true, true_or, or_true, true_and]) | (refine ⟨fun hb => ?_, ?_⟩ <;> first | (exfalso; omega; done) | exact absurd True.intro hb | ((conv => whnf); try simp only [gO, gWe, ne_eq, Nat.reduceEqDiff, not_false_eq_true, true_or, or_true, true_and])) | fail)
      refine t_115 (by omega) hH0 hX (fun ν hν => ?_)
      have f2 := f ν hν
      clear f
      (conv => whnf); try simp only [gO, gWe, ne_eq, Nat.reduceEqDiff, not_false_eq_true, true_or, or_true, true_and]
      repeat' (first | exact True.intro | (refine ⟨fun hb => ?_, fun hb => ?_⟩ <;> first | (exfalso; omega; done) | exact absurd True.intro hb | ((conv => whnf); try simp only [gO, gWe, ne_eq, Nat.reduceEqDiff, not_false_eq_true, true_or, or_true, true_and])) | (refine ⟨by omega, ?_⟩; (conv => whnf); try simp only [gO, gWe, ne_eq, Nat.reduceEqDiff, not_false_eq_true, true_or, or_true, true_and]) | (refine ⟨fun hb => ?_, ?_⟩ <;> first | (exfalso; omega; done) | exact absurd True.intro hb | ((conv => whnf); try simp only [gO, gWe, ne_eq, Nat.reduceEqDiff, not_false_eq_true, true_or, or_true, true_and])) | fail)
      exact f2
  clear k0 k1 hd
  obtain ⟨d, rfl⟩ := gD (show 1 ≤ D by omega)
  refine gC 300 [36] rfl ?_
  (conv => whnf); try simp only [gO, gWe, ne_eq, Nat.reduceEqDiff, not_false_eq_true, true_or, or_true, true_and]
  repeat' (first | exact True.intro | (refine ⟨fun hb => ?_, fun hb => ?_⟩ <;> first | (exfalso; omega; done) | exact absurd True.intro hb | ((conv => whnf); try simp only [gO, gWe, ne_eq, Nat.reduceEqDiff, not_false_eq_true, true_or, or_true, true_and])) | (refine ⟨by omega, ?_⟩; (conv => whnf); try simp only [gO, gWe, ne_eq, Nat.reduceEqDiff, not_false_eq_true, true_or, or_true, true_and]) | (refine ⟨fun hb => ?_, ?_⟩ <;> first | (exfalso; omega; done) | exact absurd True.intro hb | ((conv => whnf); try simp only [gO, gWe, ne_eq, Nat.reduceEqDiff, not_false_eq_true, true_or, or_true, true_and])) | fail)
  have two : ∀ i : Int, 0 ≤ i → i ≤ (μ 1 0) → gG g_T g_F (gCall g_T g_F sN sX d) sN sX (g_T 114) Q 96 [gR 0, gL (hN1 μ (hE1 μ (31 * (31 * 53 + (μ 1 0)) + (μ 1 1)) (μ 1 1).toNat) i.toNat), gN 2, gI i] [] g_SH μ 0 0 := by
    refine g_up (fun i i0 i1 ih => ?_) (fin (by omega))
    rw [show (i + 1).toNat = i.toNat + 1 by omega] at ih
    unfold hN1 at ih
    rw [show ((i.toNat : Nat) : Int) = i by omega] at ih
    have ly := hL.2.2.1 i i0 i1
    generalize hN1 μ (hE1 μ (31 * (31 * 53 + (μ 1 0)) + (μ 1 1)) (μ 1 1).toNat) i.toNat = hv at *
    clear fin
    refine gB_gG [96] 300 ?_
    (conv => whnf); try simp only [gO, gWe, ne_eq, Nat.reduceEqDiff, not_false_eq_true, true_or, or_true, true_and]
    repeat' (first | exact True.intro | (refine ⟨fun hb => ?_, fun hb => ?_⟩ <;> first | (exfalso; omega; done) | exact absurd True.intro hb | ((conv => whnf); try simp only [gO, gWe, ne_eq, Nat.reduceEqDiff, not_false_eq_true, true_or, or_true, true_and])) | (refine ⟨by omega, ?_⟩; (conv => whnf); try simp only [gO, gWe, ne_eq, Nat.reduceEqDiff, not_false_eq_true, true_or, or_true, true_and]) | (refine ⟨fun hb => ?_, ?_⟩ <;> first | (exfalso; omega; done) | exact absurd True.intro hb | ((conv => whnf); try simp only [gO, gWe, ne_eq, Nat.reduceEqDiff, not_false_eq_true, true_or, or_true, true_and])) | fail)
    exact ih
  have one : ∀ e : Int, 0 ≤ e → e ≤ (μ 1 1) → gG g_T g_F (gCall g_T g_F sN sX d) sN sX (g_T 114) Q 36 [gR 0, gL (hE1 μ (31 * (31 * 53 + (μ 1 0)) + (μ 1 1)) e.toNat), gN 2, gI e] [] g_SH μ 0 0 := by
    refine g_up (fun e e0 e1 ih => ?_) ?_
    · have E := iE hG hL e0 e1
      rw [show (e + 1).toNat = e.toNat + 1 by omega] at ih
      unfold hE1 at ih
      rw [show ((e.toNat : Nat) : Int) = e by omega] at ih
      generalize hE1 μ (31 * (31 * 53 + (μ 1 0)) + (μ 1 1)) e.toNat = hv at *
      have t := E.2.2.2.2.1
      clear fin two
      rcases t with t | t
      · rw [t] at ih
        refine gB_gG [36] 300 ?_
        (conv => whnf); try simp only [gO, gWe, ne_eq, Nat.reduceEqDiff, not_false_eq_true, true_or, or_true, true_and]
        repeat' (first | exact True.intro | (refine ⟨fun hb => ?_, fun hb => ?_⟩ <;> first | (exfalso; omega; done) | exact absurd True.intro hb | ((conv => whnf); try simp only [gO, gWe, ne_eq, Nat.reduceEqDiff, not_false_eq_true, true_or, or_true, true_and])) | (refine ⟨by omega, ?_⟩; (conv => whnf); try simp only [gO, gWe, ne_eq, Nat.reduceEqDiff, not_false_eq_true, true_or, or_true, true_and]) | (refine ⟨fun hb => ?_, ?_⟩ <;> first | (exfalso; omega; done) | exact absurd True.intro hb | ((conv => whnf); try simp only [gO, gWe, ne_eq, Nat.reduceEqDiff, not_false_eq_true, true_or, or_true, true_and])) | fail)
        refine t_21 (by omega) hG hL e0 e1 ?_
        (conv => whnf); try simp only [gO, gWe, ne_eq, Nat.reduceEqDiff, not_false_eq_true, true_or, or_true, true_and]
        repeat' (first | exact True.intro | (refine ⟨fun hb => ?_, fun hb => ?_⟩ <;> first | (exfalso; omega; done) | exact absurd True.intro hb | ((conv => whnf); try simp only [gO, gWe, ne_eq, Nat.reduceEqDiff, not_false_eq_true, true_or, or_true, true_and])) | (refine ⟨by omega, ?_⟩; (conv => whnf); try simp only [gO, gWe, ne_eq, Nat.reduceEqDiff, not_false_eq_true, true_or, or_true, true_and]) | (refine ⟨fun hb => ?_, ?_⟩ <;> first | (exfalso; omega; done) | exact absurd True.intro hb | ((conv => whnf); try simp only [gO, gWe, ne_eq, Nat.reduceEqDiff, not_false_eq_true, true_or, or_true, true_and])) | fail)
        exact ih
      · rw [t] at ih
        refine gB_gG [36] 300 ?_
        (conv => whnf); try simp only [gO, gWe, ne_eq, Nat.reduceEqDiff, not_false_eq_true, true_or, or_true, true_and]
        repeat' (first | exact True.intro | (refine ⟨fun hb => ?_, fun hb => ?_⟩ <;> first | (exfalso; omega; done) | exact absurd True.intro hb | ((conv => whnf); try simp only [gO, gWe, ne_eq, Nat.reduceEqDiff, not_false_eq_true, true_or, or_true, true_and])) | (refine ⟨by omega, ?_⟩; (conv => whnf); try simp only [gO, gWe, ne_eq, Nat.reduceEqDiff, not_false_eq_true, true_or, or_true, true_and]) | (refine ⟨fun hb => ?_, ?_⟩ <;> first | (exfalso; omega; done) | exact absurd True.intro hb | ((conv => whnf); try simp only [gO, gWe, ne_eq, Nat.reduceEqDiff, not_false_eq_true, true_or, or_true, true_and])) | fail)
        refine t_21 (by omega) hG hL e0 e1 ?_
        (conv => whnf); try simp only [gO, gWe, ne_eq, Nat.reduceEqDiff, not_false_eq_true, true_or, or_true, true_and]
        repeat' (first | exact True.intro | (refine ⟨fun hb => ?_, fun hb => ?_⟩ <;> first | (exfalso; omega; done) | exact absurd True.intro hb | ((conv => whnf); try simp only [gO, gWe, ne_eq, Nat.reduceEqDiff, not_false_eq_true, true_or, or_true, true_and])) | (refine ⟨by omega, ?_⟩; (conv => whnf); try simp only [gO, gWe, ne_eq, Nat.reduceEqDiff, not_false_eq_true, true_or, or_true, true_and]) | (refine ⟨fun hb => ?_, ?_⟩ <;> first | (exfalso; omega; done) | exact absurd True.intro hb | ((conv => whnf); try simp only [gO, gWe, ne_eq, Nat.reduceEqDiff, not_false_eq_true, true_or, or_true, true_and])) | fail)
        exact ih
    · have nx := two 0 (by omega) (by omega)
      clear two fin
      refine gB_gG [36,96] 300 ?_
      (conv => whnf); try simp only [gO, gWe, ne_eq, Nat.reduceEqDiff, not_false_eq_true, true_or, or_true, true_and]
      repeat' (first | exact True.intro | (refine ⟨fun hb => ?_, fun hb => ?_⟩ <;> first | (exfalso; omega; done) | exact absurd True.intro hb | ((conv => whnf); try simp only [gO, gWe, ne_eq, Nat.reduceEqDiff, not_false_eq_true, true_or, or_true, true_and])) | (refine ⟨by omega, ?_⟩; (conv => whnf); try simp only [gO, gWe, ne_eq, Nat.reduceEqDiff, not_false_eq_true, true_or, or_true, true_and]) | (refine ⟨fun hb => ?_, ?_⟩ <;> first | (exfalso; omega; done) | exact absurd True.intro hb | ((conv => whnf); try simp only [gO, gWe, ne_eq, Nat.reduceEqDiff, not_false_eq_true, true_or, or_true, true_and])) | fail)
      exact nx
  exact one 0 (by omega) (by omega)
