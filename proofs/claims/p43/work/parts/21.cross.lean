variable {sN : Int} {sX : Int → Int}
/-! crossings of all layers, in the class and in the model -/
theorem t_56 {D : Nat} (hD : 4 ≤ D) {μ : MU} {Q : GQ} (hH0 : iH μ) (h : ∀ ν : MU, gFr [31, 32] μ ν → Q (some (gI (xCa μ (μ 25)))) g_SH ν) : gCall g_T g_F sN sX D 56 [gR 19] g_SH μ Q := by
  have G := hH0.1.1
  have L := hH0.2.1.2.2.2.1
  obtain ⟨d, rfl⟩ := gD (show 1 ≤ D by omega)
  refine gC 300 [4] rfl ?_
  (conv => whnf); try simp only [gO, gWe, ne_eq, Nat.reduceEqDiff, not_false_eq_true, true_or, or_true, true_and]
  have key : ∀ y : Int, 0 ≤ y → y ≤ max 0 ((μ 9 1) - 1) → ∀ ν : MU, gFr [31, 32] μ ν → gG g_T g_F (gCall g_T g_F sN sX d) sN sX (g_T 56) Q 4 [gR 19, gI (gSum (fun y => xCb μ (μ 25) y) y.toNat), gI y] [] g_SH ν 0 0 := by
    refine g_up (fun y y0 y1 ih ν hν => ?_) (fun ν hν => ?_)
    · have st : hSt μ ν := hν.st (by decide)
      have hI : iH ν := iH_c st (hν 24 (by decide)) (hν 25 (by decide)) hH0
      have eq1 : (ν 9 1) = (μ 9 1) := by rw [st 9 (by decide) (by decide)]
      have b := xCa_b (pl := (μ 25)) hH0.1 y.toNat
      have b1 := xCb_b (pl := (μ 25)) hH0.1 y
      rw [gSum_s _ _ y0] at ih
      refine gB_gG [4] 300 ?_
      (conv => whnf); try simp only [gO, gWe, ne_eq, Nat.reduceEqDiff, not_false_eq_true, true_or, or_true, true_and]
      repeat' (first | exact True.intro | (refine ⟨fun hb => ?_, fun hb => ?_⟩ <;> first | (exfalso; omega; done) | exact absurd True.intro hb | ((conv => whnf); try simp only [gO, gWe, ne_eq, Nat.reduceEqDiff, not_false_eq_true, true_or, or_true, true_and])) | (refine ⟨by omega, ?_⟩; (conv => whnf); try simp only [gO, gWe, ne_eq, Nat.reduceEqDiff, not_false_eq_true, true_or, or_true, true_and]) | (refine ⟨fun hb => ?_, ?_⟩ <;> first | (exfalso; omega; done) | exact absurd True.intro hb | ((conv => whnf); try simp only [gO, gWe, ne_eq, Nat.reduceEqDiff, not_false_eq_true, true_or, or_true, true_and])) | fail)
      refine t_55 (by omega) hI (by omega) (fun ρ hρ => ?_)
      rw [xCb_c st, hν 25 (by decide)]
      (conv => whnf); try simp only [gO, gWe, ne_eq, Nat.reduceEqDiff, not_false_eq_true, true_or, or_true, true_and]
      repeat' (first | exact True.intro | (refine ⟨fun hb => ?_, fun hb => ?_⟩ <;> first | (exfalso; omega; done) | exact absurd True.intro hb | ((conv => whnf); try simp only [gO, gWe, ne_eq, Nat.reduceEqDiff, not_false_eq_true, true_or, or_true, true_and])) | (refine ⟨by omega, ?_⟩; (conv => whnf); try simp only [gO, gWe, ne_eq, Nat.reduceEqDiff, not_false_eq_true, true_or, or_true, true_and]) | (refine ⟨fun hb => ?_, ?_⟩ <;> first | (exfalso; omega; done) | exact absurd True.intro hb | ((conv => whnf); try simp only [gO, gWe, ne_eq, Nat.reduceEqDiff, not_false_eq_true, true_or, or_true, true_and])) | fail)
      exact ih ρ (hν.tr hρ)
    · have st : hSt μ ν := hν.st (by decide)
      have eq1 : (ν 9 1) = (μ 9 1) := by rw [st 9 (by decide) (by decide)]
      refine gB_gG [4] 300 ?_
      (conv => whnf); try simp only [gO, gWe, ne_eq, Nat.reduceEqDiff, not_false_eq_true, true_or, or_true, true_and]
      repeat' (first | exact True.intro | (refine ⟨fun hb => ?_, fun hb => ?_⟩ <;> first | (exfalso; omega; done) | exact absurd True.intro hb | ((conv => whnf); try simp only [gO, gWe, ne_eq, Nat.reduceEqDiff, not_false_eq_true, true_or, or_true, true_and])) | (refine ⟨by omega, ?_⟩; (conv => whnf); try simp only [gO, gWe, ne_eq, Nat.reduceEqDiff, not_false_eq_true, true_or, or_true, true_and]) | (refine ⟨fun hb => ?_, ?_⟩ <;> first | (exfalso; omega; done) | exact absurd True.intro hb | ((conv => whnf); try simp only [gO, gWe, ne_eq, Nat.reduceEqDiff, not_false_eq_true, true_or, or_true, true_and])) | fail)
      rw [show max 0 ((μ 9 1) - 1) = (((μ 9 1) - 1).toNat : Int) by omega]
      exact h ν hν
  exact key 0 (by omega) (by omega) μ gFr.rf
theorem t_57 {D : Nat} (hD : 3 ≤ D) {μ : MU} {Q : GQ} {e o : Int} (hH0 : iH μ) (h0 : 0 ≤ e) (h1 : e < (μ 1 1)) (h2 : 0 ≤ o) (h3 : o < (μ 1 1)) (h : Q (some (gI (gSum (fun y => xX μ (μ 25) y e o) ((μ 9 1) - 1).toNat))) g_SH μ) : gCall g_T g_F sN sX D 57 [gR 19, gI e, gI o] g_SH μ Q := by
  have G := hH0.1.1
  have L := hH0.2.1.2.2.2.1
  obtain ⟨d, rfl⟩ := gD (show 1 ≤ D by omega)
  refine gC 300 [5] rfl ?_
  (conv => whnf); try simp only [gO, gWe, ne_eq, Nat.reduceEqDiff, not_false_eq_true, true_or, or_true, true_and]
  have key : ∀ y : Int, 0 ≤ y → y ≤ max 0 ((μ 9 1) - 1) → ∀ a b : GV, gG g_T g_F (gCall g_T g_F sN sX d) sN sX (g_T 57) Q 5 [gR 19, gI e, gI o, gI (gSum (fun y => xX μ (μ 25) y e o) y.toNat), gI y, a, b] [] g_SH μ 0 0 := by
    refine g_up (fun y y0 y1 ih a b => ?_) (fun a b => ?_)
    · have bd := gSum_b (f := fun y => xX μ (μ 25) y e o) (a := 0) (b := 1) y.toNat (fun _ _ _ => xX_b)
      rw [gSum_s _ _ y0] at ih
      unfold xX at ih
      refine gB_gG [5] 300 ?_
      (conv => whnf); try simp only [gO, gWe, ne_eq, Nat.reduceEqDiff, not_false_eq_true, true_or, or_true, true_and]
      repeat' (first | exact True.intro | (refine ⟨fun hb => ?_, fun hb => ?_⟩ <;> first | (exfalso; omega; done) | exact absurd True.intro hb | ((conv => whnf); try simp only [gO, gWe, ne_eq, Nat.reduceEqDiff, not_false_eq_true, true_or, or_true, true_and])) | (refine ⟨by omega, ?_⟩; (conv => whnf); try simp only [gO, gWe, ne_eq, Nat.reduceEqDiff, not_false_eq_true, true_or, or_true, true_and]) | (refine ⟨fun hb => ?_, ?_⟩ <;> first | (exfalso; omega; done) | exact absurd True.intro hb | ((conv => whnf); try simp only [gO, gWe, ne_eq, Nat.reduceEqDiff, not_false_eq_true, true_or, or_true, true_and])) | fail)
      refine t_40 (by omega) hH0.1 h0 h1 (fun hp => ?_) (fun hp => ?_)
      · (conv => whnf); try simp only [gO, gWe, ne_eq, Nat.reduceEqDiff, not_false_eq_true, true_or, or_true, true_and]
        repeat' (first | exact True.intro | (refine ⟨fun hb => ?_, fun hb => ?_⟩ <;> first | (exfalso; omega; done) | exact absurd True.intro hb | ((conv => whnf); try simp only [gO, gWe, ne_eq, Nat.reduceEqDiff, not_false_eq_true, true_or, or_true, true_and])) | (refine ⟨by omega, ?_⟩; (conv => whnf); try simp only [gO, gWe, ne_eq, Nat.reduceEqDiff, not_false_eq_true, true_or, or_true, true_and]) | (refine ⟨fun hb => ?_, ?_⟩ <;> first | (exfalso; omega; done) | exact absurd True.intro hb | ((conv => whnf); try simp only [gO, gWe, ne_eq, Nat.reduceEqDiff, not_false_eq_true, true_or, or_true, true_and])) | fail)
        refine t_40 (by omega) hH0.1 h2 h3 (fun hq => ?_) (fun hq => ?_)
        · have s1 := xSpot_b hH0.1 hH0.2.1 hH0.2.2.1 hH0.2.2.2 h0 h1 (y := y) hp.1 (by omega)
          have s2 := xSpot_b hH0.1 hH0.2.1 hH0.2.2.1 hH0.2.2.2 h2 h3 (y := y) hq.1 (by omega)
          have s3 := xSpot_b hH0.1 hH0.2.1 hH0.2.2.1 hH0.2.2.2 h0 h1 (y := y + 1) (by omega) (by omega)
          have s4 := xSpot_b hH0.1 hH0.2.1 hH0.2.2.1 hH0.2.2.2 h2 h3 (y := y + 1) (by omega) (by omega)
          have bm : gOk ((xSpot μ (μ 25) e y - xSpot μ (μ 25) o y) * (xSpot μ (μ 25) e (y + 1) - xSpot μ (μ 25) o (y + 1))) := g_mulb (by omega) (by omega)
          (conv => whnf); try simp only [gO, gWe, ne_eq, Nat.reduceEqDiff, not_false_eq_true, true_or, or_true, true_and]
          repeat' (first | exact True.intro | (refine ⟨fun hb => ?_, fun hb => ?_⟩ <;> first | (exfalso; omega; done) | exact absurd True.intro hb | ((conv => whnf); try simp only [gO, gWe, ne_eq, Nat.reduceEqDiff, not_false_eq_true, true_or, or_true, true_and])) | (refine ⟨by omega, ?_⟩; (conv => whnf); try simp only [gO, gWe, ne_eq, Nat.reduceEqDiff, not_false_eq_true, true_or, or_true, true_and]) | (refine ⟨fun hb => ?_, ?_⟩ <;> first | (exfalso; omega; done) | exact absurd True.intro hb | ((conv => whnf); try simp only [gO, gWe, ne_eq, Nat.reduceEqDiff, not_false_eq_true, true_or, or_true, true_and])) | fail)
          refine t_54 (by omega) hH0.1 hH0.2.1 hH0.2.2.1 hH0.2.2.2 h0 h1 hp.1 (by omega) ?_
          (conv => whnf); try simp only [gO, gWe, ne_eq, Nat.reduceEqDiff, not_false_eq_true, true_or, or_true, true_and]
          refine t_54 (by omega) hH0.1 hH0.2.1 hH0.2.2.1 hH0.2.2.2 h2 h3 hq.1 (by omega) ?_
          (conv => whnf); try simp only [gO, gWe, ne_eq, Nat.reduceEqDiff, not_false_eq_true, true_or, or_true, true_and]
          repeat' (first | exact True.intro | (refine ⟨fun hb => ?_, fun hb => ?_⟩ <;> first | (exfalso; omega; done) | exact absurd True.intro hb | ((conv => whnf); try simp only [gO, gWe, ne_eq, Nat.reduceEqDiff, not_false_eq_true, true_or, or_true, true_and])) | (refine ⟨by omega, ?_⟩; (conv => whnf); try simp only [gO, gWe, ne_eq, Nat.reduceEqDiff, not_false_eq_true, true_or, or_true, true_and]) | (refine ⟨fun hb => ?_, ?_⟩ <;> first | (exfalso; omega; done) | exact absurd True.intro hb | ((conv => whnf); try simp only [gO, gWe, ne_eq, Nat.reduceEqDiff, not_false_eq_true, true_or, or_true, true_and])) | fail)
          refine t_54 (by omega) hH0.1 hH0.2.1 hH0.2.2.1 hH0.2.2.2 h0 h1 (by omega) (by omega) ?_
          (conv => whnf); try simp only [gO, gWe, ne_eq, Nat.reduceEqDiff, not_false_eq_true, true_or, or_true, true_and]
          repeat' (first | exact True.intro | (refine ⟨fun hb => ?_, fun hb => ?_⟩ <;> first | (exfalso; omega; done) | exact absurd True.intro hb | ((conv => whnf); try simp only [gO, gWe, ne_eq, Nat.reduceEqDiff, not_false_eq_true, true_or, or_true, true_and])) | (refine ⟨by omega, ?_⟩; (conv => whnf); try simp only [gO, gWe, ne_eq, Nat.reduceEqDiff, not_false_eq_true, true_or, or_true, true_and]) | (refine ⟨fun hb => ?_, ?_⟩ <;> first | (exfalso; omega; done) | exact absurd True.intro hb | ((conv => whnf); try simp only [gO, gWe, ne_eq, Nat.reduceEqDiff, not_false_eq_true, true_or, or_true, true_and])) | fail)
          refine t_54 (by omega) hH0.1 hH0.2.1 hH0.2.2.1 hH0.2.2.2 h2 h3 (by omega) (by omega) ?_
          (conv => whnf); try simp only [gO, gWe, ne_eq, Nat.reduceEqDiff, not_false_eq_true, true_or, or_true, true_and]
          repeat' (first | exact True.intro | (refine ⟨fun hb => ?_, fun hb => ?_⟩ <;> first | (exfalso; omega; done) | exact absurd True.intro hb | ((conv => whnf); try simp only [gO, gWe, ne_eq, Nat.reduceEqDiff, not_false_eq_true, true_or, or_true, true_and])) | (refine ⟨by omega, ?_⟩; (conv => whnf); try simp only [gO, gWe, ne_eq, Nat.reduceEqDiff, not_false_eq_true, true_or, or_true, true_and]) | (refine ⟨fun hb => ?_, ?_⟩ <;> first | (exfalso; omega; done) | exact absurd True.intro hb | ((conv => whnf); try simp only [gO, gWe, ne_eq, Nat.reduceEqDiff, not_false_eq_true, true_or, or_true, true_and])) | fail)
          · rw [if_neg (fun hh => by have := hh.2.2; omega), Int.add_zero] at ih
            exact ih _ _
          · rw [if_pos ⟨hp, hq, by omega⟩] at ih
            exact ih _ _
        · (conv => whnf); try simp only [gO, gWe, ne_eq, Nat.reduceEqDiff, not_false_eq_true, true_or, or_true, true_and]
          repeat' (first | exact True.intro | (refine ⟨fun hb => ?_, fun hb => ?_⟩ <;> first | (exfalso; omega; done) | exact absurd True.intro hb | ((conv => whnf); try simp only [gO, gWe, ne_eq, Nat.reduceEqDiff, not_false_eq_true, true_or, or_true, true_and])) | (refine ⟨by omega, ?_⟩; (conv => whnf); try simp only [gO, gWe, ne_eq, Nat.reduceEqDiff, not_false_eq_true, true_or, or_true, true_and]) | (refine ⟨fun hb => ?_, ?_⟩ <;> first | (exfalso; omega; done) | exact absurd True.intro hb | ((conv => whnf); try simp only [gO, gWe, ne_eq, Nat.reduceEqDiff, not_false_eq_true, true_or, or_true, true_and])) | fail)
          rw [if_neg (fun hh => hq hh.2.1), Int.add_zero] at ih
          exact ih a b
      · (conv => whnf); try simp only [gO, gWe, ne_eq, Nat.reduceEqDiff, not_false_eq_true, true_or, or_true, true_and]
        repeat' (first | exact True.intro | (refine ⟨fun hb => ?_, fun hb => ?_⟩ <;> first | (exfalso; omega; done) | exact absurd True.intro hb | ((conv => whnf); try simp only [gO, gWe, ne_eq, Nat.reduceEqDiff, not_false_eq_true, true_or, or_true, true_and])) | (refine ⟨by omega, ?_⟩; (conv => whnf); try simp only [gO, gWe, ne_eq, Nat.reduceEqDiff, not_false_eq_true, true_or, or_true, true_and]) | (refine ⟨fun hb => ?_, ?_⟩ <;> first | (exfalso; omega; done) | exact absurd True.intro hb | ((conv => whnf); try simp only [gO, gWe, ne_eq, Nat.reduceEqDiff, not_false_eq_true, true_or, or_true, true_and])) | fail)
        rw [if_neg (fun hh => hp hh.1), Int.add_zero] at ih
        exact ih a b
    · refine gB_gG [5] 300 ?_
      (conv => whnf); try simp only [gO, gWe, ne_eq, Nat.reduceEqDiff, not_false_eq_true, true_or, or_true, true_and]
      repeat' (first | exact True.intro | (refine ⟨fun hb => ?_, fun hb => ?_⟩ <;> first | (exfalso; omega; done) | exact absurd True.intro hb | ((conv => whnf); try simp only [gO, gWe, ne_eq, Nat.reduceEqDiff, not_false_eq_true, true_or, or_true, true_and])) | (refine ⟨by omega, ?_⟩; (conv => whnf); try simp only [gO, gWe, ne_eq, Nat.reduceEqDiff, not_false_eq_true, true_or, or_true, true_and]) | (refine ⟨fun hb => ?_, ?_⟩ <;> first | (exfalso; omega; done) | exact absurd True.intro hb | ((conv => whnf); try simp only [gO, gWe, ne_eq, Nat.reduceEqDiff, not_false_eq_true, true_or, or_true, true_and])) | fail)
      rw [show max 0 ((μ 9 1) - 1) = (((μ 9 1) - 1).toNat : Int) by omega]
      exact h
  exact key 0 (by omega) (by omega) (gN 2) (gN 2)
/-! groups -/
/-- the bits that stand for the groups begun -/
def gHas (b g : Int) : Prop := (g = 1 ∧ b / 2 % 2 = 1) ∨ (g = 2 ∧ b / 4 % 2 = 1) ∨ (g = 3 ∧ b / 8 % 2 = 1)
theorem g_bits : ∀ b : Fin 16, ∀ g : Fin 3, ((gAnd (gShr (b.val : Int) ((g.val : Int) + 1)) 1 = 0 ∧ ((b.val / 2 ^ (g.val + 1)) % 2 = 0)) ∨ (gAnd (gShr (b.val : Int) ((g.val : Int) + 1)) 1 = 1 ∧ ((b.val / 2 ^ (g.val + 1)) % 2 = 1))) ∧ gOr (b.val : Int) (gShl 1 ((g.val : Int) + 1)) = ((if (b.val / 2 ^ (g.val + 1)) % 2 = 1 then b.val else b.val + 2 ^ (g.val + 1) : Nat) : Int) := by decide +kernel
theorem g_bit {b g : Int} (hb : 0 ≤ b ∧ b < 16) (hg : 1 ≤ g ∧ g ≤ 3) : (gAnd (gShr b g) 1 = 0 ∨ gAnd (gShr b g) 1 = 1) ∧ (gAnd (gShr b g) 1 = 1 ↔ gHas b g) ∧ (0 ≤ gOr b (gShl 1 g) ∧ gOr b (gShl 1 g) < 16) ∧ ∀ h : Int, 1 ≤ h → h ≤ 3 → (gHas (gOr b (gShl 1 g)) h ↔ gHas b h ∨ h = g) := by
  have h := g_bits ⟨b.toNat, by omega⟩ ⟨(g - 1).toNat, by omega⟩
  simp only [show ((b.toNat : Nat) : Int) = b by omega, show (((g - 1).toNat : Nat) : Int) + 1 = g by omega] at h
  unfold gHas
  rcases (show g = 1 ∨ g = 2 ∨ g = 3 by omega) with c | c | c
  · subst c
    rw [show (2 : Nat) ^ ((1 - 1 : Int).toNat + 1) = 2 from rfl] at h
    obtain ⟨h1, h2⟩ := h
    rw [h2]
    refine ⟨by omega, by omega, ?_, fun h h0 h3 => ?_⟩ <;> split <;> omega
  · subst c
    rw [show (2 : Nat) ^ ((2 - 1 : Int).toNat + 1) = 4 from rfl] at h
    obtain ⟨h1, h2⟩ := h
    rw [h2]
    refine ⟨by omega, by omega, ?_, fun h h0 h3 => ?_⟩ <;> split <;> omega
  · subst c
    rw [show (2 : Nat) ^ ((3 - 1 : Int).toNat + 1) = 8 from rfl] at h
    obtain ⟨h1, h2⟩ := h
    rw [h2]
    refine ⟨by omega, by omega, ?_, fun h h0 h3 => ?_⟩ <;> split <;> omega
