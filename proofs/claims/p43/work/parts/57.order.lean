variable {sN : Int} {sX : Int → Int}
/-! the first order -/
def clF (μ : MU) (s : GO) : Nat → GO
  | 0 => s
  | k + 1 => clo2 μ k (clF μ s k)
theorem hCn_i {μ : MU} {y j : Int} : ∀ n : Nat, 0 ≤ j → j < hCn μ y n → ∃ v : Int, 0 ≤ v ∧ v < n ∧ (μ 21) v = y ∧ hCn μ y v.toNat = j := by
  intro n
  induction n with
  | zero => intro j0 j1; have : hCn μ y 0 = 0 := rfl
            omega
  | succ n ih =>
    intro j0 j1
    have e : hCn μ y (n + 1) = hCn μ y n + if (μ 21) n = y then 1 else 0 := rfl
    by_cases hc : j < hCn μ y n
    · obtain ⟨v, v0, v1, v2⟩ := ih j0 hc
      exact ⟨v, v0, by omega, v2⟩
    · by_cases hd : (μ 21) n = y
      · rw [if_pos hd] at e
        exact ⟨n, by omega, by omega, hd, by rw [Int.toNat_natCast]; omega⟩
      · rw [if_neg hd] at e
        omega
theorem iNm_O {μ : MU} {sq : Int → Int} (hG : iG μ) (hL : iL μ) (hN : iN μ) (h : iNm μ sq) : iO μ sq (fun v => hCn μ ((μ 21) v) v.toNat) := by
  have V := hN.1
  have G := hG.1
  refine ⟨fun y y0 y1 k k0 k1 => ?_, fun v v0 v1 => ?_⟩
  · have s := hN.2.2.2.2.2.2.2 y y0 y1
    have c : hCn μ y (μ 19 2).toNat = gSum (fun v => if (μ 21) v = y then 1 else 0) (μ 19 2).toNat := rfl
    obtain ⟨v, v0, v1, v2, v3⟩ := hCn_i (μ := μ) (y := y) (j := k - (μ 23) y) (μ 19 2).toNat (by omega) (by omega)
    have e := h v v0 (by omega)
    rw [v2, v3, show (μ 23) y + (k - (μ 23) y) = k by omega] at e
    rw [e]
    exact ⟨⟨v0, by omega⟩, v2, by show hCn μ ((μ 21) v) v.toNat = _; rw [v2, v3]⟩
  · have l := iN_lay hG hL hN v0 v1
    have s := hN.2.2.2.2.2.2.2 _ l.1 l.2
    have c : hCn μ ((μ 21) v) (μ 19 2).toNat = gSum (fun w => if (μ 21) w = (μ 21) v then 1 else 0) (μ 19 2).toNat := rfl
    have a3 := hCn_m (μ := μ) (y := (μ 21) v) (n := v.toNat + 1) (μ 19 2).toNat (by omega)
    have a4 := hCn_s (μ := μ) (y := (μ 21) v) v0
    rw [if_pos rfl, show (v + 1).toNat = v.toNat + 1 by omega] at a4
    have b := hCn_b (μ := μ) (y := (μ 21) v) v.toNat
    exact ⟨b.1, by show (μ 23) _ + hCn μ ((μ 21) v) v.toNat < _; omega, h v v0 v1⟩
theorem clF_ok {μ : MU} {s : GO} (hG : iG μ) (hL : iL μ) (hN : iN μ) (h : iNm μ s.1) : ∀ y : Nat, (y : Int) ≤ (μ 9 1) → ∃ pl : Int → Int, iO μ (clF μ s y).1 pl ∧ (∀ v : Int, 0 ≤ v → v < (μ 19 2) → (μ 21) v < y → (clF μ s y).2 v = pl v) ∧ (∀ z : Int, 0 ≤ z → z < y → iC μ (clF μ s y).1 z) ∧ ∀ k : Int, (μ 23) y ≤ k → k < (μ 19 2) → (clF μ s y).1 k = s.1 k := by
  intro y
  induction y with
  | zero => intro _; exact ⟨_, iNm_O hG hL hN h, fun v v0 v1 hv => by have := iN_lay hG hL hN v0 v1; omega, fun z z0 z1 => by omega, fun _ _ _ => rfl⟩
  | succ y ih =>
    intro hy
    obtain ⟨pl, i1, i2, i3, i4⟩ := ih (by omega)
    rw [show clF μ s (y + 1) = clo2 μ y (clF μ s y) from rfl]
    generalize clF μ s y = t at *
    have y0 : (0 : Int) ≤ y := by omega
    have y1 : (y : Int) < (μ 9 1) := by omega
    have st := (iN_st hG hL hN).1 y y0 y1
    have o := clo2_o (s := (t.1, pl)) (pl := pl) hG hL hN i1 y0 y1 (fun _ _ _ _ => rfl)
    have cv := cloS_v hG hL hN i1 y0 y1
    refine ⟨_, o, fun v v0 v1 hv => ?_, fun z z0 z1 => ?_, fun k k0 k1 => ?_⟩
    · show setP (cloS μ t.1 y) ((μ 23) y) ((μ 23) (y + 1) - (μ 23) y).toNat t.2 v = setP (cloS μ t.1 y) ((μ 23) y) ((μ 23) (y + 1) - (μ 23) y).toNat pl v
      by_cases hc : (μ 21) v = y
      · have a := o.2 v v0 v1
        rw [hc] at a
        have a2 : cloS μ t.1 y ((μ 23) y + (clo2 μ y (t.1, pl)).2 v) = v := a.2.2
        generalize (clo2 μ y (t.1, pl)).2 v = q at *
        rw [← a2, setP_i _ (fun k k' k0 k1 k2 => cv.2.2.2.1 k k' k0 k1 (by omega)) _ (by omega) (by omega), setP_i _ (fun k k' k0 k1 k2 => cv.2.2.2.1 k k' k0 k1 (by omega)) _ (by omega) (by omega)]
      · have no : ∀ k : Int, (μ 23) y ≤ k → k < (μ 23) y + (((μ 23) (y + 1) - (μ 23) y).toNat : Int) → cloS μ t.1 y k ≠ v := fun k k0 k1 hk => by
          have a := (o.1 y y0 y1 k k0 (by omega)).2.1
          have a' : (μ 21) (cloS μ t.1 y k) = y := a
          rw [hk] at a'
          exact hc a'
        rw [setP_o _ no, setP_o _ no]
        exact i2 v v0 v1 (by omega)
    · by_cases hc : z = y
      · rw [hc]; exact cv.2.2.2.2
      · exact iC_o hG hL hN y0 y1 z0 (by omega) hc (i3 z z0 (by omega))
    · have k0' : (μ 23) ((y : Int) + 1) ≤ k := k0
      show cloS μ t.1 y k = s.1 k
      unfold cloS
      rw [if_neg (by omega)]
      exact i4 k (by omega) k1
theorem clF_e {μ : MU} {s : GO} (hG : iG μ) (hL : iL μ) (hN : iN μ) (h : iNm μ s.1) : iOC μ (clF μ s (μ 9 1).toNat) := by
  have L := hL.2.2.2.1
  obtain ⟨pl, i1, i2, i3, -⟩ := clF_ok hG hL hN h (μ 9 1).toNat (by omega)
  exact ⟨iO_pc hG hL hN i1 (fun v v0 v1 => i2 v v0 v1 (by have := iN_lay hG hL hN v0 v1; omega)), fun z z0 z1 => i3 z z0 (by omega)⟩
theorem t_35 {D : Nat} (hD : 4 ≤ D) {μ : MU} {Q : GQ} (hG : iG μ) (hL : iL μ) (hc : (μ 1 0) + xTot μ - (μ 1 1) ≤ 60) (h : ∀ (ν : MU) (s : GO), gFr [19, 20, 21, 22, 23, 24, 25, 28] μ ν → (ν 19 2) = (μ 1 0) + xTot μ - (μ 1 1) → iN ν → iNm ν s.1 → ((ν 24), (ν 25)) = clF ν s (ν 9 1).toNat → Q none g_SH ν) : gCall g_T g_F sN sX D 35 [gR 19] g_SH μ Q := by
  have G := hG.1
  have L := hL.2.2.2.1
  have bt := hBn_t hG
  have cls : ∀ ν : MU, gFr [19, 20, 21, 22, 23, 24, 25, 28] μ ν → iG ν ∧ iL ν ∧ (ν 1 0) = (μ 1 0) ∧ (ν 1 1) = (μ 1 1) ∧ (ν 9 1) = (μ 9 1) := fun ν hν => by
    refine ⟨iG_f (hν 1 (by decide)) (hν 2 (by decide)) (hν 3 (by decide)) (hν 4 (by decide)) (hν 5 (by decide)) (hν 6 (by decide)) (hν 7 (by decide)) (hν 8 (by decide)) hG, ?_, by rw [hν 1 (by decide)], by rw [hν 1 (by decide)], by rw [hν 9 (by decide)]⟩
    unfold iL iU at *
    rw [hν 1 (by decide), hν 4 (by decide), hν 5 (by decide), hν 8 (by decide), hν 9 (by decide), hν 10 (by decide), hν 11 (by decide), hν 12 (by decide), hν 13 (by decide), hν 14 (by decide), hν 15 (by decide)]
    exact hL
  obtain ⟨d, rfl⟩ := gD (show 1 ≤ D by omega)
  refine gC 300 [7] rfl ?_
  (conv => whnf); try simp only [gO, gWe, ne_eq, Nat.reduceEqDiff, not_false_eq_true, true_or, or_true, true_and]
  have loop4 : ∀ y : Int, 0 ≤ y → y ≤ (μ 9 1) → ∀ (ν₀ ν : MU) (s : GO) (x z : GV), gFr [19, 20, 21, 22, 23, 24, 25, 28] μ ν₀ → (ν₀ 19 2) = (μ 1 0) + xTot μ - (μ 1 1) → iN ν₀ → iNm ν₀ s.1 → gFr [24, 25, 28] ν₀ ν → ((ν 24), (ν 25)) = clF ν₀ s y.toNat → gG g_T g_F (gCall g_T g_F sN sX d) sN sX (g_T 35) Q 120 [gR 19, gI y, x, z] [] g_SH ν 0 0 := by
    refine g_up (fun y y0 y1 ih ν₀ ν s x z h0 hv hN hNm hν hs => ?_) (fun ν₀ ν s x z h0 hv hN hNm hν hs => ?_)
    · obtain ⟨hG0, hL0, n0, m0, l0⟩ := cls ν₀ h0
      have sν : hSt ν₀ ν := hν.st (by decide)
      obtain ⟨pl, i1, -⟩ := clF_ok hG0 hL0 hN hNm y.toNat (by omega)
      have e1 : (ν 24) = _ := congrArg Prod.fst hs
      have i := ih ν₀
      rw [show (y + 1).toNat = y.toNat + 1 by omega] at i
      have st1 : clF ν₀ s (y.toNat + 1) = clo2 ν₀ (y.toNat : Int) (clF ν₀ s y.toNat) := rfl
      rw [show ((y.toNat : Nat) : Int) = y by omega] at st1
      have f9 : (ν 9 1) = (μ 9 1) := by rw [sν 9 (by decide) (by decide)]; exact l0
      clear ih
      refine gB_gG [120] 300 ?_
      (conv => whnf); try simp only [gO, gWe, ne_eq, Nat.reduceEqDiff, not_false_eq_true, true_or, or_true, true_and]
      repeat' (first | exact True.intro | (refine ⟨fun hb => ?_, fun hb => ?_⟩ <;> first | (exfalso; omega; done) | exact absurd True.intro hb | ((conv => whnf); try simp only [gO, gWe, ne_eq, Nat.reduceEqDiff, not_false_eq_true, true_or, or_true, true_and])) | (refine ⟨by omega, ?_⟩; (conv => whnf); try simp only [gO, gWe, ne_eq, Nat.reduceEqDiff, not_false_eq_true, true_or, or_true, true_and]) | (refine ⟨fun hb => ?_, ?_⟩ <;> first | (exfalso; omega; done) | exact absurd True.intro hb | ((conv => whnf); try simp only [gO, gWe, ne_eq, Nat.reduceEqDiff, not_false_eq_true, true_or, or_true, true_and])) | fail)
      refine t_51 (by omega) (iG_c sν hG0) (iL_c sν hL0) (iN_c sν hN) (pl := pl) (by rw [e1]; exact iO_c sν i1) y0 (by omega) (fun τ hτ hs2 => ?_)
      have c2 : clo2 ν = clo2 ν₀ := by
        funext y s
        unfold clo2 cloS
        rw [hClo_c sν, sν 23 (by decide) (by decide)]
      rw [c2, hs, ← st1] at hs2
      have i := i τ s x z h0 hv hN hNm (hν.tr hτ) hs2
      (conv => whnf); try simp only [gO, gWe, ne_eq, Nat.reduceEqDiff, not_false_eq_true, true_or, or_true, true_and]
      repeat' (first | exact True.intro | (refine ⟨fun hb => ?_, fun hb => ?_⟩ <;> first | (exfalso; omega; done) | exact absurd True.intro hb | ((conv => whnf); try simp only [gO, gWe, ne_eq, Nat.reduceEqDiff, not_false_eq_true, true_or, or_true, true_and])) | (refine ⟨by omega, ?_⟩; (conv => whnf); try simp only [gO, gWe, ne_eq, Nat.reduceEqDiff, not_false_eq_true, true_or, or_true, true_and]) | (refine ⟨fun hb => ?_, ?_⟩ <;> first | (exfalso; omega; done) | exact absurd True.intro hb | ((conv => whnf); try simp only [gO, gWe, ne_eq, Nat.reduceEqDiff, not_false_eq_true, true_or, or_true, true_and])) | fail)
      exact i
    · obtain ⟨hG0, hL0, n0, m0, l0⟩ := cls ν₀ h0
      have sν : hSt ν₀ ν := hν.st (by decide)
      have f9 : (ν 9 1) = (μ 9 1) := by rw [sν 9 (by decide) (by decide)]; exact l0
      have c2 : clF ν = clF ν₀ := by
        funext s n
        induction n with
        | zero => rfl
        | succ n ih => unfold clF clo2 cloS; rw [ih, hClo_c sν, sν 23 (by decide) (by decide)]
      have fin := h ν s (h0.tr (hν.mo (by decide))) (by rw [sν 19 (by decide) (by decide)]; exact hv) (iN_c sν hN) (by
        unfold iNm hCn at *
        rw [sν 19 (by decide) (by decide), sν 21 (by decide) (by decide), sν 23 (by decide) (by decide)]
        exact hNm) (by rw [c2, hs, f9])
      refine gB_gG [120] 300 ?_
      (conv => whnf); try simp only [gO, gWe, ne_eq, Nat.reduceEqDiff, not_false_eq_true, true_or, or_true, true_and]
      repeat' (first | exact True.intro | (refine ⟨fun hb => ?_, fun hb => ?_⟩ <;> first | (exfalso; omega; done) | exact absurd True.intro hb | ((conv => whnf); try simp only [gO, gWe, ne_eq, Nat.reduceEqDiff, not_false_eq_true, true_or, or_true, true_and])) | (refine ⟨by omega, ?_⟩; (conv => whnf); try simp only [gO, gWe, ne_eq, Nat.reduceEqDiff, not_false_eq_true, true_or, or_true, true_and]) | (refine ⟨fun hb => ?_, ?_⟩ <;> first | (exfalso; omega; done) | exact absurd True.intro hb | ((conv => whnf); try simp only [gO, gWe, ne_eq, Nat.reduceEqDiff, not_false_eq_true, true_or, or_true, true_and])) | fail)
      exact fin
  have last : ∀ (ν : MU) (x y z : GV), gFr [19, 20, 21, 22] μ ν → hBu μ ν (μ 1 1) 0 → gG g_T g_F (gCall g_T g_F sN sX d) sN sX (g_T 35) Q 114 [gR 19, x, y, z] [] g_SH ν 0 0 := by
    intro ν x y z hν hb
    have h0 : gFr [19, 20, 21, 22, 23, 24, 25, 28] μ ν := hν.mo (by decide)
    obtain ⟨hG0, hL0, n0, m0, l0⟩ := cls ν h0
    have b0 := hBn_m hG hL (Int.le_refl 0) (show 0 ≤ (μ 1 1) by omega) (Int.le_refl _)
    have z00 : hBn μ 0 = 0 := rfl
    have vc := hb.1
    obtain ⟨-, u1, u2, u3, -⟩ := hb
    have e13 : (ν 13) = (μ 13) := hν 13 (by decide)
    have e14 : (ν 14) = (μ 14) := hν 14 (by decide)
    have e15 : (ν 15) = (μ 15) := hν 15 (by decide)
    have each : ∀ v : Int, 0 ≤ v → v < (ν 19 2) → 0 ≤ (ν 21) v ∧ (ν 21) v < (ν 9 1) := by
      have key : ∀ k : Nat, (k : Int) ≤ (μ 1 1) → ∀ v : Int, 0 ≤ v → v < (μ 1 0) + hBn μ k → 0 ≤ (ν 21) v ∧ (ν 21) v < (ν 9 1) := by
        intro k
        induction k with
        | zero =>
          intro _ v v0 v1
          have v1' : v < (μ 1 0) + hBn μ 0 := v1
          have a := u1 v v0 (by omega)
          have b := hL.2.2.1 v v0 (by omega)
          omega
        | succ k ih =>
          intro hk v v0 v1
          have v1' : v < (μ 1 0) + hBn μ ((k : Int) + 1) := v1
          rw [hBn_s (by omega)] at v1'
          by_cases hc : v < (μ 1 0) + hBn μ k
          · exact ih (by omega) v v0 hc
          · have E := iE hG hL (show (0 : Int) ≤ k by omega) (show (k : Int) < (μ 1 1) by omega)
            have a := u3 k (v - (μ 1 0) - hBn μ k + (μ 14) k + 1) (by omega) (by omega) (by omega) (by omega)
            rw [show (μ 1 0) + hBn μ k + (v - (μ 1 0) - hBn μ k + (μ 14) k + 1) - (μ 14) k - 1 = v by omega] at a
            omega
      intro v v0 v1
      exact key (μ 1 1).toNat (by omega) v v0 (by rw [show (((μ 1 1).toNat : Nat) : Int) = (μ 1 1) by omega]; omega)
    refine gB_gG [120] 300 ?_
    (conv => whnf); try simp only [gO, gWe, ne_eq, Nat.reduceEqDiff, not_false_eq_true, true_or, or_true, true_and]
    refine t_37 (by omega) hG0 hL0 (by omega) each (fun τ hτ s0 sL ss hNm => ?_)
    have k19 : (τ 19 2) = (ν 19 2) := by rw [hτ 19 (by decide)]
    have h2 : gFr [19, 20, 21, 22, 23, 24, 25, 28] μ τ := h0.tr (hτ.mo (by decide))
    have hN : iN τ := by
      unfold iN
      rw [hτ 19 (by decide), hτ 20 (by decide), hτ 21 (by decide), hτ 22 (by decide), h2 1 (by decide), h2 9 (by decide), h2 13 (by decide), h2 14 (by decide), h2 15 (by decide)]
      have eb : ∀ e : Int, hBn μ e = gSum (fun j => (μ 15) j - (μ 14) j - 1) e.toNat := fun _ => rfl
      refine ⟨by omega, by rw [← eb]; omega, fun e e0 e1 => by rw [← eb]; exact u2 e e0 e1, u1, fun e y e0 e1 y0 y1 => by rw [u2 e e0 e1]; exact u3 e y e0 e1 y0 y1, s0, by rw [← l0]; exact sL, by rw [← l0]; exact ss⟩
    have i := loop4 0 (by omega) (by omega) τ τ ((τ 24), (τ 25))
    (conv => whnf); try simp only [gO, gWe, ne_eq, Nat.reduceEqDiff, not_false_eq_true, true_or, or_true, true_and]
    repeat' (first | exact True.intro | (refine ⟨fun hb => ?_, fun hb => ?_⟩ <;> first | (exfalso; omega; done) | exact absurd True.intro hb | ((conv => whnf); try simp only [gO, gWe, ne_eq, Nat.reduceEqDiff, not_false_eq_true, true_or, or_true, true_and])) | (refine ⟨by omega, ?_⟩; (conv => whnf); try simp only [gO, gWe, ne_eq, Nat.reduceEqDiff, not_false_eq_true, true_or, or_true, true_and]) | (refine ⟨fun hb => ?_, ?_⟩ <;> first | (exfalso; omega; done) | exact absurd True.intro hb | ((conv => whnf); try simp only [gO, gWe, ne_eq, Nat.reduceEqDiff, not_false_eq_true, true_or, or_true, true_and])) | fail)
    exact i _ _ h2 (by omega) hN hNm gFr.rf rfl
  have loop2 : ∀ e : Int, 0 ≤ e → e ≤ (μ 1 1) → ∀ (ν : MU) (x z : GV), gFr [19, 20, 21, 22] μ ν → hBu μ ν e 0 → gG g_T g_F (gCall g_T g_F sN sX d) sN sX (g_T 35) Q 40 [gR 19, gI e, x, z] [] g_SH ν 0 0 := by
    refine g_up (fun e e0 e1 ih ν x z hν hb => ?_) (fun ν x z hν hb => ?_)
    · have E := iE hG hL e0 e1
      have m1 := hBn_m hG hL (show 0 ≤ e + 1 by omega) (show e + 1 ≤ (μ 1 1) by omega) (Int.le_refl _)
      have m0 := hBn_m hG hL (Int.le_refl 0) e0 (show e ≤ (μ 1 1) by omega)
      have z00 : hBn μ 0 = 0 := rfl
      rw [hBn_s e0] at m1
      have inn : ∀ z : Int, 0 ≤ z → z ≤ (μ 15) e - (μ 14) e - 1 → ∀ ν : MU, gFr [19, 20, 21, 22] μ ν → hBu μ ν e z → (ν 22) e = (μ 1 0) + hBn μ e → gG g_T g_F (gCall g_T g_F sN sX d) sN sX (g_T 35) Q 83 [gR 19, gI e, gI ((μ 15) e), gI ((μ 14) e + 1 + z)] [] g_SH ν 0 0 := by
        refine g_up (fun z y0 y1 ihz ν hν hb hf => ?_) (fun ν hν hb hf => ?_)
        · have vc := hb.1
          have i : ∀ τ : MU, gFr [19, 20, 21] ν τ → (τ 19 2) = (ν 19 2) + 1 → (τ 20) = gUp (ν 20) (ν 19 2) (100 + 40 * e + ((μ 14) e + 1 + z)) → (τ 21) = gUp (ν 21) (ν 19 2) ((μ 14) e + 1 + z) → gG g_T g_F (gCall g_T g_F sN sX d) sN sX (g_T 35) Q 83 [gR 19, gI e, gI ((μ 15) e), gI ((μ 14) e + 1 + z + 1)] [] g_SH τ 0 0 := fun τ h1 h2 h3 h4 => by
            have j := ihz τ (hν.tr (h1.mo (by decide))) (hBu_p hG hL e0 e1 y0 hb (h1 22 (by decide)) h2 h3 h4) (by rw [h1 22 (by decide)]; exact hf)
            rw [← Int.add_assoc] at j
            exact j
          clear ihz hb ih
          refine gB_gG [83] 300 ?_
          (conv => whnf); try simp only [gO, gWe, ne_eq, Nat.reduceEqDiff, not_false_eq_true, true_or, or_true, true_and]
          repeat' (first | exact True.intro | (refine ⟨fun hb => ?_, fun hb => ?_⟩ <;> first | (exfalso; omega; done) | exact absurd True.intro hb | ((conv => whnf); try simp only [gO, gWe, ne_eq, Nat.reduceEqDiff, not_false_eq_true, true_or, or_true, true_and])) | (refine ⟨by omega, ?_⟩; (conv => whnf); try simp only [gO, gWe, ne_eq, Nat.reduceEqDiff, not_false_eq_true, true_or, or_true, true_and]) | (refine ⟨fun hb => ?_, ?_⟩ <;> first | (exfalso; omega; done) | exact absurd True.intro hb | ((conv => whnf); try simp only [gO, gWe, ne_eq, Nat.reduceEqDiff, not_false_eq_true, true_or, or_true, true_and])) | fail)
          refine t_36 (by omega) (by omega) (fun τ hτ t1 t2 t3 => ?_)
          have j := i τ hτ t1 t2 t3
          (conv => whnf); try simp only [gO, gWe, ne_eq, Nat.reduceEqDiff, not_false_eq_true, true_or, or_true, true_and]
          repeat' (first | exact True.intro | (refine ⟨fun hb => ?_, fun hb => ?_⟩ <;> first | (exfalso; omega; done) | exact absurd True.intro hb | ((conv => whnf); try simp only [gO, gWe, ne_eq, Nat.reduceEqDiff, not_false_eq_true, true_or, or_true, true_and])) | (refine ⟨by omega, ?_⟩; (conv => whnf); try simp only [gO, gWe, ne_eq, Nat.reduceEqDiff, not_false_eq_true, true_or, or_true, true_and]) | (refine ⟨fun hb => ?_, ?_⟩ <;> first | (exfalso; omega; done) | exact absurd True.intro hb | ((conv => whnf); try simp only [gO, gWe, ne_eq, Nat.reduceEqDiff, not_false_eq_true, true_or, or_true, true_and])) | fail)
          exact j
        · have nx := ih ν (gI ((μ 15) e)) (gI ((μ 14) e + 1 + ((μ 15) e - (μ 14) e - 1))) hν (hBu_n hG hL e0 e1 hb hf)
          clear ih hb
          refine gB_gG [83,40] 300 ?_
          (conv => whnf); try simp only [gO, gWe, ne_eq, Nat.reduceEqDiff, not_false_eq_true, true_or, or_true, true_and]
          repeat' (first | exact True.intro | (refine ⟨fun hb => ?_, fun hb => ?_⟩ <;> first | (exfalso; omega; done) | exact absurd True.intro hb | ((conv => whnf); try simp only [gO, gWe, ne_eq, Nat.reduceEqDiff, not_false_eq_true, true_or, or_true, true_and])) | (refine ⟨by omega, ?_⟩; (conv => whnf); try simp only [gO, gWe, ne_eq, Nat.reduceEqDiff, not_false_eq_true, true_or, or_true, true_and]) | (refine ⟨fun hb => ?_, ?_⟩ <;> first | (exfalso; omega; done) | exact absurd True.intro hb | ((conv => whnf); try simp only [gO, gWe, ne_eq, Nat.reduceEqDiff, not_false_eq_true, true_or, or_true, true_and])) | fail)
          exact nx
      have f2 : (ν 1 1) = (μ 1 1) := by rw [hν 1 (by decide)]
      have f14 : (ν 14) e = (μ 14) e := by rw [hν 14 (by decide)]
      have f15 : (ν 15) e = (μ 15) e := by rw [hν 15 (by decide)]
      have vc := hb.1
      have nx : gG g_T g_F (gCall g_T g_F sN sX d) sN sX (g_T 35) Q 83 [gR 19, gI e, gI ((ν 15) e), gI ((ν 14) e + 1)] [] g_SH (gW ν 22 e (ν 19 2)) 0 0 := by
        have i := inn 0 (by omega) (by omega) (gW ν 22 e (ν 19 2)) (hν.W (by decide)) (by
          obtain ⟨a, b, c, d, f⟩ := hb
          refine ⟨a, b, fun j j0 j1 => ?_, d, f⟩
          show gW ν 22 e _ 22 j = _
          rw [gWn _ _ _ (show j ≠ e by omega)]
          exact c j j0 j1) (by show gW ν 22 e (ν 19 2) 22 e = _; rw [gWe]; omega)
        rw [Int.add_zero] at i
        rw [f14, f15]
        exact i
      clear ih inn hb
      refine gB_gG [40,83] 300 ?_
      (conv => whnf); try simp only [gO, gWe, ne_eq, Nat.reduceEqDiff, not_false_eq_true, true_or, or_true, true_and]
      repeat' (first | exact True.intro | (refine ⟨fun hb => ?_, fun hb => ?_⟩ <;> first | (exfalso; omega; done) | exact absurd True.intro hb | ((conv => whnf); try simp only [gO, gWe, ne_eq, Nat.reduceEqDiff, not_false_eq_true, true_or, or_true, true_and])) | (refine ⟨by omega, ?_⟩; (conv => whnf); try simp only [gO, gWe, ne_eq, Nat.reduceEqDiff, not_false_eq_true, true_or, or_true, true_and]) | (refine ⟨fun hb => ?_, ?_⟩ <;> first | (exfalso; omega; done) | exact absurd True.intro hb | ((conv => whnf); try simp only [gO, gWe, ne_eq, Nat.reduceEqDiff, not_false_eq_true, true_or, or_true, true_and])) | fail)
      exact nx
    · have f2 : (ν 1 1) = (μ 1 1) := by rw [hν 1 (by decide)]
      have nx := last ν (gI (μ 1 1)) x z hν hb
      clear hb
      refine gB_gG [40,114] 300 ?_
      (conv => whnf); try simp only [gO, gWe, ne_eq, Nat.reduceEqDiff, not_false_eq_true, true_or, or_true, true_and]
      repeat' (first | exact True.intro | (refine ⟨fun hb => ?_, fun hb => ?_⟩ <;> first | (exfalso; omega; done) | exact absurd True.intro hb | ((conv => whnf); try simp only [gO, gWe, ne_eq, Nat.reduceEqDiff, not_false_eq_true, true_or, or_true, true_and])) | (refine ⟨by omega, ?_⟩; (conv => whnf); try simp only [gO, gWe, ne_eq, Nat.reduceEqDiff, not_false_eq_true, true_or, or_true, true_and]) | (refine ⟨fun hb => ?_, ?_⟩ <;> first | (exfalso; omega; done) | exact absurd True.intro hb | ((conv => whnf); try simp only [gO, gWe, ne_eq, Nat.reduceEqDiff, not_false_eq_true, true_or, or_true, true_and])) | fail)
      exact nx
  have loop1 : ∀ i : Int, 0 ≤ i → i ≤ (μ 1 0) → ∀ (ν : MU) (x z : GV), gFr [19, 20, 21, 22] μ ν → (ν 19 2) = i → (∀ j : Int, 0 ≤ j → j < i → (ν 20) j = j ∧ (ν 21) j = (μ 13) j) → gG g_T g_F (gCall g_T g_F sN sX d) sN sX (g_T 35) Q 7 [gR 19, gI i, x, z] [] g_SH ν 0 0 := by
    refine g_up (fun i i0 i1 ih ν x z hν hv hj => ?_) (fun ν x z hν hv hj => ?_)
    · have f1 : (ν 1 0) = (μ 1 0) := by rw [hν 1 (by decide)]
      have f13 : (ν 13) i = (μ 13) i := by rw [hν 13 (by decide)]
      have nx : ∀ τ : MU, gFr [19, 20, 21] ν τ → (τ 19 2) = (ν 19 2) + 1 → (τ 20) = gUp (ν 20) (ν 19 2) i → (τ 21) = gUp (ν 21) (ν 19 2) ((ν 13) i) → gG g_T g_F (gCall g_T g_F sN sX d) sN sX (g_T 35) Q 7 [gR 19, gI (i + 1), x, z] [] g_SH τ 0 0 := fun τ h1 h2 h3 h4 => ih τ x z (hν.tr (h1.mo (by decide))) (by omega) (fun j j0 j1 => by
        rw [h3, h4, hv, f13]
        by_cases hc : j = i
        · rw [hc, gUp_e, gUp_e]; exact ⟨rfl, rfl⟩
        · rw [gUp_n hc, gUp_n hc]; exact hj j j0 (by omega))
      clear ih hj
      refine gB_gG [7] 300 ?_
      (conv => whnf); try simp only [gO, gWe, ne_eq, Nat.reduceEqDiff, not_false_eq_true, true_or, or_true, true_and]
      repeat' (first | exact True.intro | (refine ⟨fun hb => ?_, fun hb => ?_⟩ <;> first | (exfalso; omega; done) | exact absurd True.intro hb | ((conv => whnf); try simp only [gO, gWe, ne_eq, Nat.reduceEqDiff, not_false_eq_true, true_or, or_true, true_and])) | (refine ⟨by omega, ?_⟩; (conv => whnf); try simp only [gO, gWe, ne_eq, Nat.reduceEqDiff, not_false_eq_true, true_or, or_true, true_and]) | (refine ⟨fun hb => ?_, ?_⟩ <;> first | (exfalso; omega; done) | exact absurd True.intro hb | ((conv => whnf); try simp only [gO, gWe, ne_eq, Nat.reduceEqDiff, not_false_eq_true, true_or, or_true, true_and])) | fail)
      refine t_36 (by omega) (by omega) (fun τ hτ t1 t2 t3 => ?_)
      have j := nx τ hτ t1 t2 t3
      (conv => whnf); try simp only [gO, gWe, ne_eq, Nat.reduceEqDiff, not_false_eq_true, true_or, or_true, true_and]
      repeat' (first | exact True.intro | (refine ⟨fun hb => ?_, fun hb => ?_⟩ <;> first | (exfalso; omega; done) | exact absurd True.intro hb | ((conv => whnf); try simp only [gO, gWe, ne_eq, Nat.reduceEqDiff, not_false_eq_true, true_or, or_true, true_and])) | (refine ⟨by omega, ?_⟩; (conv => whnf); try simp only [gO, gWe, ne_eq, Nat.reduceEqDiff, not_false_eq_true, true_or, or_true, true_and]) | (refine ⟨fun hb => ?_, ?_⟩ <;> first | (exfalso; omega; done) | exact absurd True.intro hb | ((conv => whnf); try simp only [gO, gWe, ne_eq, Nat.reduceEqDiff, not_false_eq_true, true_or, or_true, true_and])) | fail)
      exact j
    · have f1 : (ν 1 0) = (μ 1 0) := by rw [hν 1 (by decide)]
      have z00 : hBn μ 0 = 0 := rfl
      have nx := loop2 0 (by omega) (by omega) ν x z hν ⟨by omega, hj, fun j _ _ => by omega, fun j y _ _ => by omega, fun y y0 y1 => by omega⟩
      clear hj
      refine gB_gG [7,40] 300 ?_
      (conv => whnf); try simp only [gO, gWe, ne_eq, Nat.reduceEqDiff, not_false_eq_true, true_or, or_true, true_and]
      repeat' (first | exact True.intro | (refine ⟨fun hb => ?_, fun hb => ?_⟩ <;> first | (exfalso; omega; done) | exact absurd True.intro hb | ((conv => whnf); try simp only [gO, gWe, ne_eq, Nat.reduceEqDiff, not_false_eq_true, true_or, or_true, true_and])) | (refine ⟨by omega, ?_⟩; (conv => whnf); try simp only [gO, gWe, ne_eq, Nat.reduceEqDiff, not_false_eq_true, true_or, or_true, true_and]) | (refine ⟨fun hb => ?_, ?_⟩ <;> first | (exfalso; omega; done) | exact absurd True.intro hb | ((conv => whnf); try simp only [gO, gWe, ne_eq, Nat.reduceEqDiff, not_false_eq_true, true_or, or_true, true_and])) | fail)
      exact nx
  exact loop1 0 (by omega) (by omega) _ _ _ (gFr.rf.W (by decide)) (gWe _ _ _ _) (fun j _ _ => by omega)
