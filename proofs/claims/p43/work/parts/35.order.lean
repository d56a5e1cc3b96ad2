variable {sN : Int} {sX : Int → Int}
/-! orders taken and compared, packing -/
theorem iO_pc {μ : MU} {sq pl pl' : Int → Int} (hG : iG μ) (hL : iL μ) (hN : iN μ) (hO : iO μ sq pl) (h : ∀ v : Int, 0 ≤ v → v < (μ 19 2) → pl' v = pl v) : iO μ sq pl' := by
  refine ⟨fun y y0 y1 k k0 k1 => ?_, fun v v0 v1 => ?_⟩
  · have a := hO.1 y y0 y1 k k0 k1
    rw [h _ a.1.1 a.1.2]; exact a
  · rw [h v v0 v1]; exact hO.2 v v0 v1
theorem iO_sc {μ : MU} {sq sq' pl : Int → Int} (hG : iG μ) (hL : iL μ) (hN : iN μ) (hO : iO μ sq pl) (h : ∀ k : Int, 0 ≤ k → k < (μ 19 2) → sq' k = sq k) : iO μ sq' pl := by
  have V := hN.1
  refine ⟨fun y y0 y1 k k0 k1 => ?_, fun v v0 v1 => ?_⟩
  · have st := (iN_st hG hL hN).1 y y0 y1
    rw [h k (by omega) (by omega)]
    exact hO.1 y y0 y1 k k0 k1
  · have b := iO_v hG hL hN hO v0 v1
    rw [h _ (by omega) (by omega)]
    exact hO.2 v v0 v1
theorem iC_sc {μ : MU} {sq sq' : Int → Int} (hG : iG μ) (hL : iL μ) (hN : iN μ) {y : Int} (y0 : 0 ≤ y) (y1 : y < (μ 9 1)) (hC : iC μ sq y) (h : ∀ k : Int, 0 ≤ k → k < (μ 19 2) → sq' k = sq k) : iC μ sq' y := by
  have st := (iN_st hG hL hN).1 y y0 y1
  intro i j k i0 i1 i2 i3
  rw [h i (by omega) (by omega), h j (by omega) (by omega), h k (by omega) (by omega)]
  exact hC i j k i0 i1 i2 i3
theorem iO_plu {μ : MU} {sq sq' pl pl' : Int → Int} (hG : iG μ) (hL : iL μ) (hN : iN μ) (hO : iO μ sq pl) (hO' : iO μ sq' pl') (h : ∀ k : Int, 0 ≤ k → k < (μ 19 2) → sq' k = sq k) {v : Int} (v0 : 0 ≤ v) (v1 : v < (μ 19 2)) : pl' v = pl v := by
  have b := iO_v hG hL hN hO v0 v1
  have c := hO'.1 _ b.1.1 b.1.2 ((μ 23) ((μ 21) v) + pl v) (by omega) b.2.2.1.2.1
  rw [h _ (by omega) (by omega), b.2.2.2] at c
  omega
theorem xCa_e {μ : MU} {pl pl' : Int → Int} (hG : iG μ) (hL : iL μ) (hN : iN μ) (h : ∀ v : Int, 0 ≤ v → v < (μ 19 2) → pl v = pl' v) : xCa μ pl = xCa μ pl' := gSum_c _ (fun z _ _ => xCb_e hG hL hN (fun w w0 w1 _ => h w w0 w1))
theorem t_47_27 {D : Nat} (hD : 2 ≤ D) {μ : MU} {Q : GQ} {pl : Int → Int} (hG : iG μ) (hL : iL μ) (hN : iN μ) (hO : iO μ (μ 27) pl) (h : ∀ ν : MU, gFr [24, 25] μ ν → (∀ j : Int, 0 ≤ j → j < 60 → (ν 24) j = μ 27 j) → iO μ (ν 24) (ν 25) → Q none g_SH ν) : gCall g_T g_F sN sX D 47 [gR 19, gR 27] g_SH μ Q := by
  have V := hN.1
  have G := hG.1
  have L := hL.2.2.2.1
  obtain ⟨d, rfl⟩ := gD (show 1 ≤ D by omega)
  refine gC 300 [14] rfl ?_
  (conv => whnf); try simp only [gO, gWe, ne_eq, Nat.reduceEqDiff, not_false_eq_true, true_or, or_true, true_and]
  repeat' (first | exact True.intro | (refine ⟨fun hb => ?_, fun hb => ?_⟩ <;> first | (exfalso; omega; done) | exact absurd True.intro hb | ((conv => whnf); try simp only [gO, gWe, ne_eq, Nat.reduceEqDiff, not_false_eq_true, true_or, or_true, true_and])) | (refine ⟨by omega, ?_⟩; (conv => whnf); try simp only [gO, gWe, ne_eq, Nat.reduceEqDiff, not_false_eq_true, true_or, or_true, true_and]) | (refine ⟨fun hb => ?_, ?_⟩ <;> first | (exfalso; omega; done) | exact absurd True.intro hb | ((conv => whnf); try simp only [gO, gWe, ne_eq, Nat.reduceEqDiff, not_false_eq_true, true_or, or_true, true_and])) | fail)
  have f : gFr [24] μ (gCp μ 27 0 24 0 60) := fun c hc => by
    show (if c = 24 then _ else _) = _
    rw [if_neg (fun h => hc (by simp [h]))]
  have q : ∀ j : Int, 0 ≤ j → j < 60 → gCp μ 27 0 24 0 60 24 j = μ 27 j := fun j j0 j1 => by
    show (if 0 ≤ j ∧ j < 0 + 60 then μ 27 (0 + (j - 0)) else (μ 24) j) = _
    rw [if_pos (by omega), show (0 : Int) + (j - 0) = j by omega]
  generalize gCp μ 27 0 24 0 60 = ρ at f q ⊢
  have s0 : hSt μ ρ := f.st (by decide)
  have oq : iO μ (ρ 24) pl := iO_sc hG hL hN hO (fun k k0 k1 => q k k0 (by omega))
  have key : ∀ y : Int, 0 ≤ y → y ≤ (μ 9 1) → ∀ ν : MU, gFr [25] ρ ν → (∀ v : Int, 0 ≤ v → v < (μ 19 2) → (μ 21) v < y → (ν 25) v = pl v) → gG g_T g_F (gCall g_T g_F sN sX d) sN sX (g_T 47) Q 14 [gR 19, gR 27, gI y] [] g_SH ν 0 0 := by
    refine g_up (fun y y0 y1 ih ν hν hp => ?_) (fun ν hν hp => ?_)
    · have s1 : hSt μ ν := s0.tr (hν.st (by decide))
      have e24 : (ν 24) = (ρ 24) := hν 24 (by decide)
      have f9 : (ν 9 1) = (μ 9 1) := by rw [s1 9 (by decide) (by decide)]
      have f23 : (ν 23) = (μ 23) := s1 23 (by decide) (by decide)
      have st := (iN_st hG hL hN).1 y y0 y1
      refine gB_gG [14] 300 ?_
      (conv => whnf); try simp only [gO, gWe, ne_eq, Nat.reduceEqDiff, not_false_eq_true, true_or, or_true, true_and]
      repeat' (first | exact True.intro | (refine ⟨fun hb => ?_, fun hb => ?_⟩ <;> first | (exfalso; omega; done) | exact absurd True.intro hb | ((conv => whnf); try simp only [gO, gWe, ne_eq, Nat.reduceEqDiff, not_false_eq_true, true_or, or_true, true_and])) | (refine ⟨by omega, ?_⟩; (conv => whnf); try simp only [gO, gWe, ne_eq, Nat.reduceEqDiff, not_false_eq_true, true_or, or_true, true_and]) | (refine ⟨fun hb => ?_, ?_⟩ <;> first | (exfalso; omega; done) | exact absurd True.intro hb | ((conv => whnf); try simp only [gO, gWe, ne_eq, Nat.reduceEqDiff, not_false_eq_true, true_or, or_true, true_and])) | fail)
      refine t_48 (by omega) (iG_c s1 hG) (iL_c s1 hL) (iN_c s1 hN) y0 (by omega) ?_ ?_ (fun τ hτ ht => ?_)
      · rw [f23, e24]
        intro k k0 k1
        have := (oq.1 y y0 y1 k k0 k1).1
        omega
      · rw [f23, e24]
        exact fun k k' k0 k1 k2 hh => by have := iO_inj hG hL hN oq (by omega) (by omega) (by omega) (by omega) hh; omega
      · (conv => whnf); try simp only [gO, gWe, ne_eq, Nat.reduceEqDiff, not_false_eq_true, true_or, or_true, true_and]
        repeat' (first | exact True.intro | (refine ⟨fun hb => ?_, fun hb => ?_⟩ <;> first | (exfalso; omega; done) | exact absurd True.intro hb | ((conv => whnf); try simp only [gO, gWe, ne_eq, Nat.reduceEqDiff, not_false_eq_true, true_or, or_true, true_and])) | (refine ⟨by omega, ?_⟩; (conv => whnf); try simp only [gO, gWe, ne_eq, Nat.reduceEqDiff, not_false_eq_true, true_or, or_true, true_and]) | (refine ⟨fun hb => ?_, ?_⟩ <;> first | (exfalso; omega; done) | exact absurd True.intro hb | ((conv => whnf); try simp only [gO, gWe, ne_eq, Nat.reduceEqDiff, not_false_eq_true, true_or, or_true, true_and])) | fail)
        refine ih τ (hν.tr hτ) (fun v v0 v1 hv => ?_)
        rw [f23, e24] at ht
        rw [ht]
        have b := iO_v hG hL hN oq v0 v1
        by_cases c : (μ 21) v = y
        · rw [c] at b
          have z := setP_i (sq := (ρ 24)) (s := (μ 23) y) (f := (ν 25)) ((μ 23) (y + 1) - (μ 23) y).toNat (fun k k' k0 k1 k2 hh => by have := iO_inj hG hL hN oq (by omega) (by omega) (by omega) (by omega) hh; omega) ((μ 23) y + pl v) (by omega) (by omega)
          rw [b.2.2.2] at z
          omega
        · rw [setP_o _ (fun k k0 k1 hk => by
            have := (oq.1 y y0 y1 k k0 (by omega)).2.1
            rw [hk] at this
            exact c this)]
          exact hp v v0 v1 (by omega)
    · have s1 : hSt μ ν := s0.tr (hν.st (by decide))
      have f9 : (ν 9 1) = (μ 9 1) := by rw [s1 9 (by decide) (by decide)]
      have e24 : (ν 24) = (ρ 24) := hν 24 (by decide)
      refine gB_gG [] 300 ?_
      (conv => whnf); try simp only [gO, gWe, ne_eq, Nat.reduceEqDiff, not_false_eq_true, true_or, or_true, true_and]
      repeat' (first | exact True.intro | (refine ⟨fun hb => ?_, fun hb => ?_⟩ <;> first | (exfalso; omega; done) | exact absurd True.intro hb | ((conv => whnf); try simp only [gO, gWe, ne_eq, Nat.reduceEqDiff, not_false_eq_true, true_or, or_true, true_and])) | (refine ⟨by omega, ?_⟩; (conv => whnf); try simp only [gO, gWe, ne_eq, Nat.reduceEqDiff, not_false_eq_true, true_or, or_true, true_and]) | (refine ⟨fun hb => ?_, ?_⟩ <;> first | (exfalso; omega; done) | exact absurd True.intro hb | ((conv => whnf); try simp only [gO, gWe, ne_eq, Nat.reduceEqDiff, not_false_eq_true, true_or, or_true, true_and])) | fail)
      refine h ν ((f.mo (by decide)).tr (hν.mo (by decide))) (fun j j0 j1 => by rw [e24]; exact q j j0 j1) ?_
      rw [e24]
      exact iO_pc hG hL hN oq (fun v v0 v1 => hp v v0 v1 (iN_lay hG hL hN v0 v1).2)
  exact key 0 (by omega) (by omega) ρ gFr.rf (fun v v0 v1 hv => by have := iN_lay hG hL hN v0 v1; omega)
theorem t_47_48 {D : Nat} (hD : 2 ≤ D) {μ : MU} {Q : GQ} {pl : Int → Int} (hG : iG μ) (hL : iL μ) (hN : iN μ) (hO : iO μ (μ 48) pl) (h : ∀ ν : MU, gFr [24, 25] μ ν → (∀ j : Int, 0 ≤ j → j < 60 → (ν 24) j = μ 48 j) → iO μ (ν 24) (ν 25) → Q none g_SH ν) : gCall g_T g_F sN sX D 47 [gR 19, gR 48] g_SH μ Q := by
  have V := hN.1
  have G := hG.1
  have L := hL.2.2.2.1
  obtain ⟨d, rfl⟩ := gD (show 1 ≤ D by omega)
  refine gC 300 [14] rfl ?_
  (conv => whnf); try simp only [gO, gWe, ne_eq, Nat.reduceEqDiff, not_false_eq_true, true_or, or_true, true_and]
  repeat' (first | exact True.intro | (refine ⟨fun hb => ?_, fun hb => ?_⟩ <;> first | (exfalso; omega; done) | exact absurd True.intro hb | ((conv => whnf); try simp only [gO, gWe, ne_eq, Nat.reduceEqDiff, not_false_eq_true, true_or, or_true, true_and])) | (refine ⟨by omega, ?_⟩; (conv => whnf); try simp only [gO, gWe, ne_eq, Nat.reduceEqDiff, not_false_eq_true, true_or, or_true, true_and]) | (refine ⟨fun hb => ?_, ?_⟩ <;> first | (exfalso; omega; done) | exact absurd True.intro hb | ((conv => whnf); try simp only [gO, gWe, ne_eq, Nat.reduceEqDiff, not_false_eq_true, true_or, or_true, true_and])) | fail)
  have f : gFr [24] μ (gCp μ 48 0 24 0 60) := fun c hc => by
    show (if c = 24 then _ else _) = _
    rw [if_neg (fun h => hc (by simp [h]))]
  have q : ∀ j : Int, 0 ≤ j → j < 60 → gCp μ 48 0 24 0 60 24 j = μ 48 j := fun j j0 j1 => by
    show (if 0 ≤ j ∧ j < 0 + 60 then μ 48 (0 + (j - 0)) else (μ 24) j) = _
    rw [if_pos (by omega), show (0 : Int) + (j - 0) = j by omega]
  generalize gCp μ 48 0 24 0 60 = ρ at f q ⊢
  have s0 : hSt μ ρ := f.st (by decide)
  have oq : iO μ (ρ 24) pl := iO_sc hG hL hN hO (fun k k0 k1 => q k k0 (by omega))
  have key : ∀ y : Int, 0 ≤ y → y ≤ (μ 9 1) → ∀ ν : MU, gFr [25] ρ ν → (∀ v : Int, 0 ≤ v → v < (μ 19 2) → (μ 21) v < y → (ν 25) v = pl v) → gG g_T g_F (gCall g_T g_F sN sX d) sN sX (g_T 47) Q 14 [gR 19, gR 48, gI y] [] g_SH ν 0 0 := by
    refine g_up (fun y y0 y1 ih ν hν hp => ?_) (fun ν hν hp => ?_)
    · have s1 : hSt μ ν := s0.tr (hν.st (by decide))
      have e24 : (ν 24) = (ρ 24) := hν 24 (by decide)
      have f9 : (ν 9 1) = (μ 9 1) := by rw [s1 9 (by decide) (by decide)]
      have f23 : (ν 23) = (μ 23) := s1 23 (by decide) (by decide)
      have st := (iN_st hG hL hN).1 y y0 y1
      refine gB_gG [14] 300 ?_
      (conv => whnf); try simp only [gO, gWe, ne_eq, Nat.reduceEqDiff, not_false_eq_true, true_or, or_true, true_and]
      repeat' (first | exact True.intro | (refine ⟨fun hb => ?_, fun hb => ?_⟩ <;> first | (exfalso; omega; done) | exact absurd True.intro hb | ((conv => whnf); try simp only [gO, gWe, ne_eq, Nat.reduceEqDiff, not_false_eq_true, true_or, or_true, true_and])) | (refine ⟨by omega, ?_⟩; (conv => whnf); try simp only [gO, gWe, ne_eq, Nat.reduceEqDiff, not_false_eq_true, true_or, or_true, true_and]) | (refine ⟨fun hb => ?_, ?_⟩ <;> first | (exfalso; omega; done) | exact absurd True.intro hb | ((conv => whnf); try simp only [gO, gWe, ne_eq, Nat.reduceEqDiff, not_false_eq_true, true_or, or_true, true_and])) | fail)
      refine t_48 (by omega) (iG_c s1 hG) (iL_c s1 hL) (iN_c s1 hN) y0 (by omega) ?_ ?_ (fun τ hτ ht => ?_)
      · rw [f23, e24]
        intro k k0 k1
        have := (oq.1 y y0 y1 k k0 k1).1
        omega
      · rw [f23, e24]
        exact fun k k' k0 k1 k2 hh => by have := iO_inj hG hL hN oq (by omega) (by omega) (by omega) (by omega) hh; omega
      · (conv => whnf); try simp only [gO, gWe, ne_eq, Nat.reduceEqDiff, not_false_eq_true, true_or, or_true, true_and]
        repeat' (first | exact True.intro | (refine ⟨fun hb => ?_, fun hb => ?_⟩ <;> first | (exfalso; omega; done) | exact absurd True.intro hb | ((conv => whnf); try simp only [gO, gWe, ne_eq, Nat.reduceEqDiff, not_false_eq_true, true_or, or_true, true_and])) | (refine ⟨by omega, ?_⟩; (conv => whnf); try simp only [gO, gWe, ne_eq, Nat.reduceEqDiff, not_false_eq_true, true_or, or_true, true_and]) | (refine ⟨fun hb => ?_, ?_⟩ <;> first | (exfalso; omega; done) | exact absurd True.intro hb | ((conv => whnf); try simp only [gO, gWe, ne_eq, Nat.reduceEqDiff, not_false_eq_true, true_or, or_true, true_and])) | fail)
        refine ih τ (hν.tr hτ) (fun v v0 v1 hv => ?_)
        rw [f23, e24] at ht
        rw [ht]
        have b := iO_v hG hL hN oq v0 v1
        by_cases c : (μ 21) v = y
        · rw [c] at b
          have z := setP_i (sq := (ρ 24)) (s := (μ 23) y) (f := (ν 25)) ((μ 23) (y + 1) - (μ 23) y).toNat (fun k k' k0 k1 k2 hh => by have := iO_inj hG hL hN oq (by omega) (by omega) (by omega) (by omega) hh; omega) ((μ 23) y + pl v) (by omega) (by omega)
          rw [b.2.2.2] at z
          omega
        · rw [setP_o _ (fun k k0 k1 hk => by
            have := (oq.1 y y0 y1 k k0 (by omega)).2.1
            rw [hk] at this
            exact c this)]
          exact hp v v0 v1 (by omega)
    · have s1 : hSt μ ν := s0.tr (hν.st (by decide))
      have f9 : (ν 9 1) = (μ 9 1) := by rw [s1 9 (by decide) (by decide)]
      have e24 : (ν 24) = (ρ 24) := hν 24 (by decide)
      refine gB_gG [] 300 ?_
      (conv => whnf); try simp only [gO, gWe, ne_eq, Nat.reduceEqDiff, not_false_eq_true, true_or, or_true, true_and]
      repeat' (first | exact True.intro | (refine ⟨fun hb => ?_, fun hb => ?_⟩ <;> first | (exfalso; omega; done) | exact absurd True.intro hb | ((conv => whnf); try simp only [gO, gWe, ne_eq, Nat.reduceEqDiff, not_false_eq_true, true_or, or_true, true_and])) | (refine ⟨by omega, ?_⟩; (conv => whnf); try simp only [gO, gWe, ne_eq, Nat.reduceEqDiff, not_false_eq_true, true_or, or_true, true_and]) | (refine ⟨fun hb => ?_, ?_⟩ <;> first | (exfalso; omega; done) | exact absurd True.intro hb | ((conv => whnf); try simp only [gO, gWe, ne_eq, Nat.reduceEqDiff, not_false_eq_true, true_or, or_true, true_and])) | fail)
      refine h ν ((f.mo (by decide)).tr (hν.mo (by decide))) (fun j j0 j1 => by rw [e24]; exact q j j0 j1) ?_
      rw [e24]
      exact iO_pc hG hL hN oq (fun v v0 v1 => hp v v0 v1 (iN_lay hG hL hN v0 v1).2)
  exact key 0 (by omega) (by omega) ρ gFr.rf (fun v v0 v1 hv => by have := iN_lay hG hL hN v0 v1; omega)
theorem t_47_59 {D : Nat} (hD : 2 ≤ D) {μ : MU} {Q : GQ} {pl : Int → Int} (hG : iG μ) (hL : iL μ) (hN : iN μ) (hO : iO μ (μ 59) pl) (h : ∀ ν : MU, gFr [24, 25] μ ν → (∀ j : Int, 0 ≤ j → j < 60 → (ν 24) j = μ 59 j) → iO μ (ν 24) (ν 25) → Q none g_SH ν) : gCall g_T g_F sN sX D 47 [gR 19, gR 59] g_SH μ Q := by
  have V := hN.1
  have G := hG.1
  have L := hL.2.2.2.1
  obtain ⟨d, rfl⟩ := gD (show 1 ≤ D by omega)
  refine gC 300 [14] rfl ?_
  (conv => whnf); try simp only [gO, gWe, ne_eq, Nat.reduceEqDiff, not_false_eq_true, true_or, or_true, true_and]
  repeat' (first | exact True.intro | (refine ⟨fun hb => ?_, fun hb => ?_⟩ <;> first | (exfalso; omega; done) | exact absurd True.intro hb | ((conv => whnf); try simp only [gO, gWe, ne_eq, Nat.reduceEqDiff, not_false_eq_true, true_or, or_true, true_and])) | (refine ⟨by omega, ?_⟩; (conv => whnf); try simp only [gO, gWe, ne_eq, Nat.reduceEqDiff, not_false_eq_true, true_or, or_true, true_and]) | (refine ⟨fun hb => ?_, ?_⟩ <;> first | (exfalso; omega; done) | exact absurd True.intro hb | ((conv => whnf); try simp only [gO, gWe, ne_eq, Nat.reduceEqDiff, not_false_eq_true, true_or, or_true, true_and])) | fail)
  have f : gFr [24] μ (gCp μ 59 0 24 0 60) := fun c hc => by
    show (if c = 24 then _ else _) = _
    rw [if_neg (fun h => hc (by simp [h]))]
  have q : ∀ j : Int, 0 ≤ j → j < 60 → gCp μ 59 0 24 0 60 24 j = μ 59 j := fun j j0 j1 => by
    show (if 0 ≤ j ∧ j < 0 + 60 then μ 59 (0 + (j - 0)) else (μ 24) j) = _
    rw [if_pos (by omega), show (0 : Int) + (j - 0) = j by omega]
  generalize gCp μ 59 0 24 0 60 = ρ at f q ⊢
  have s0 : hSt μ ρ := f.st (by decide)
  have oq : iO μ (ρ 24) pl := iO_sc hG hL hN hO (fun k k0 k1 => q k k0 (by omega))
  have key : ∀ y : Int, 0 ≤ y → y ≤ (μ 9 1) → ∀ ν : MU, gFr [25] ρ ν → (∀ v : Int, 0 ≤ v → v < (μ 19 2) → (μ 21) v < y → (ν 25) v = pl v) → gG g_T g_F (gCall g_T g_F sN sX d) sN sX (g_T 47) Q 14 [gR 19, gR 59, gI y] [] g_SH ν 0 0 := by
    refine g_up (fun y y0 y1 ih ν hν hp => ?_) (fun ν hν hp => ?_)
    · have s1 : hSt μ ν := s0.tr (hν.st (by decide))
      have e24 : (ν 24) = (ρ 24) := hν 24 (by decide)
      have f9 : (ν 9 1) = (μ 9 1) := by rw [s1 9 (by decide) (by decide)]
      have f23 : (ν 23) = (μ 23) := s1 23 (by decide) (by decide)
      have st := (iN_st hG hL hN).1 y y0 y1
      refine gB_gG [14] 300 ?_
      (conv => whnf); try simp only [gO, gWe, ne_eq, Nat.reduceEqDiff, not_false_eq_true, true_or, or_true, true_and]
      repeat' (first | exact True.intro | (refine ⟨fun hb => ?_, fun hb => ?_⟩ <;> first | (exfalso; omega; done) | exact absurd True.intro hb | ((conv => whnf); try simp only [gO, gWe, ne_eq, Nat.reduceEqDiff, not_false_eq_true, true_or, or_true, true_and])) | (refine ⟨by omega, ?_⟩; (conv => whnf); try simp only [gO, gWe, ne_eq, Nat.reduceEqDiff, not_false_eq_true, true_or, or_true, true_and]) | (refine ⟨fun hb => ?_, ?_⟩ <;> first | (exfalso; omega; done) | exact absurd True.intro hb | ((conv => whnf); try simp only [gO, gWe, ne_eq, Nat.reduceEqDiff, not_false_eq_true, true_or, or_true, true_and])) | fail)
      refine t_48 (by omega) (iG_c s1 hG) (iL_c s1 hL) (iN_c s1 hN) y0 (by omega) ?_ ?_ (fun τ hτ ht => ?_)
      · rw [f23, e24]
        intro k k0 k1
        have := (oq.1 y y0 y1 k k0 k1).1
        omega
      · rw [f23, e24]
        exact fun k k' k0 k1 k2 hh => by have := iO_inj hG hL hN oq (by omega) (by omega) (by omega) (by omega) hh; omega
      · (conv => whnf); try simp only [gO, gWe, ne_eq, Nat.reduceEqDiff, not_false_eq_true, true_or, or_true, true_and]
        repeat' (first | exact True.intro | (refine ⟨fun hb => ?_, fun hb => ?_⟩ <;> first | (exfalso; omega; done) | exact absurd True.intro hb | ((conv => whnf); try simp only [gO, gWe, ne_eq, Nat.reduceEqDiff, not_false_eq_true, true_or, or_true, true_and])) | (refine ⟨by omega, ?_⟩; (conv => whnf); try simp only [gO, gWe, ne_eq, Nat.reduceEqDiff, not_false_eq_true, true_or, or_true, true_and]) | (refine ⟨fun hb => ?_, ?_⟩ <;> first | (exfalso; omega; done) | exact absurd True.intro hb | ((conv => whnf); try simp only [gO, gWe, ne_eq, Nat.reduceEqDiff, not_false_eq_true, true_or, or_true, true_and])) | fail)
        refine ih τ (hν.tr hτ) (fun v v0 v1 hv => ?_)
        rw [f23, e24] at ht
        rw [ht]
        have b := iO_v hG hL hN oq v0 v1
        by_cases c : (μ 21) v = y
        · rw [c] at b
          have z := setP_i (sq := (ρ 24)) (s := (μ 23) y) (f := (ν 25)) ((μ 23) (y + 1) - (μ 23) y).toNat (fun k k' k0 k1 k2 hh => by have := iO_inj hG hL hN oq (by omega) (by omega) (by omega) (by omega) hh; omega) ((μ 23) y + pl v) (by omega) (by omega)
          rw [b.2.2.2] at z
          omega
        · rw [setP_o _ (fun k k0 k1 hk => by
            have := (oq.1 y y0 y1 k k0 (by omega)).2.1
            rw [hk] at this
            exact c this)]
          exact hp v v0 v1 (by omega)
    · have s1 : hSt μ ν := s0.tr (hν.st (by decide))
      have f9 : (ν 9 1) = (μ 9 1) := by rw [s1 9 (by decide) (by decide)]
      have e24 : (ν 24) = (ρ 24) := hν 24 (by decide)
      refine gB_gG [] 300 ?_
      (conv => whnf); try simp only [gO, gWe, ne_eq, Nat.reduceEqDiff, not_false_eq_true, true_or, or_true, true_and]
      repeat' (first | exact True.intro | (refine ⟨fun hb => ?_, fun hb => ?_⟩ <;> first | (exfalso; omega; done) | exact absurd True.intro hb | ((conv => whnf); try simp only [gO, gWe, ne_eq, Nat.reduceEqDiff, not_false_eq_true, true_or, or_true, true_and])) | (refine ⟨by omega, ?_⟩; (conv => whnf); try simp only [gO, gWe, ne_eq, Nat.reduceEqDiff, not_false_eq_true, true_or, or_true, true_and]) | (refine ⟨fun hb => ?_, ?_⟩ <;> first | (exfalso; omega; done) | exact absurd True.intro hb | ((conv => whnf); try simp only [gO, gWe, ne_eq, Nat.reduceEqDiff, not_false_eq_true, true_or, or_true, true_and])) | fail)
      refine h ν ((f.mo (by decide)).tr (hν.mo (by decide))) (fun j j0 j1 => by rw [e24]; exact q j j0 j1) ?_
      rw [e24]
      exact iO_pc hG hL hN oq (fun v v0 v1 => hp v v0 v1 (iN_lay hG hL hN v0 v1).2)
  exact key 0 (by omega) (by omega) ρ gFr.rf (fun v v0 v1 hv => by have := iN_lay hG hL hN v0 v1; omega)
theorem t_45 {D : Nat} (hD : 1 ≤ D) {μ : MU} {Q : GQ} (h : ∀ ν : MU, gFr [26] μ ν → (∀ j : Int, 0 ≤ j → j < 60 → (ν 26) j = (μ 24) j) → Q none g_SH ν) : gCall g_T g_F sN sX D 45 [gR 19] g_SH μ Q := by
  obtain ⟨d, rfl⟩ := gD (show 1 ≤ D by omega)
  refine gC 300 [] rfl ?_
  (conv => whnf); try simp only [gO, gWe, ne_eq, Nat.reduceEqDiff, not_false_eq_true, true_or, or_true, true_and]
  repeat' (first | exact True.intro | (refine ⟨fun hb => ?_, fun hb => ?_⟩ <;> first | (exfalso; omega; done) | exact absurd True.intro hb | ((conv => whnf); try simp only [gO, gWe, ne_eq, Nat.reduceEqDiff, not_false_eq_true, true_or, or_true, true_and])) | (refine ⟨by omega, ?_⟩; (conv => whnf); try simp only [gO, gWe, ne_eq, Nat.reduceEqDiff, not_false_eq_true, true_or, or_true, true_and]) | (refine ⟨fun hb => ?_, ?_⟩ <;> first | (exfalso; omega; done) | exact absurd True.intro hb | ((conv => whnf); try simp only [gO, gWe, ne_eq, Nat.reduceEqDiff, not_false_eq_true, true_or, or_true, true_and])) | fail)
  refine h _ (fun c hc => ?_) (fun j j0 j1 => ?_)
  · show (if c = 26 then _ else _) = _
    rw [if_neg (fun h => hc (by simp [h]))]
  · show (if 0 ≤ j ∧ j < 0 + 60 then (μ 24) (0 + (j - 0)) else (μ 26) j) = _
    rw [if_pos (by omega), show (0 : Int) + (j - 0) = j by omega]
theorem t_46 {D : Nat} (hD : 1 ≤ D) {μ : MU} {Q : GQ} (hV : 0 ≤ (μ 19 2) ∧ (μ 19 2) ≤ 60) (k1 : (¬ ∀ k : Int, 0 ≤ k → k < (μ 19 2) → (μ 24) k = (μ 26) k) → Q (some (gI (1))) g_SH μ) (k0 : (∀ k : Int, 0 ≤ k → k < (μ 19 2) → (μ 24) k = (μ 26) k) → Q (some (gI (0))) g_SH μ) : gCall g_T g_F sN sX D 46 [gR 19] g_SH μ Q := by
  obtain ⟨d, rfl⟩ := gD (show 1 ≤ D by omega)
  refine gC 300 [2] rfl ?_
  (conv => whnf); try simp only [gO, gWe, ne_eq, Nat.reduceEqDiff, not_false_eq_true, true_or, or_true, true_and]
  have key : ∀ i : Int, 0 ≤ i → i ≤ (μ 19 2) → (∀ k : Int, 0 ≤ k → k < i → (μ 24) k = (μ 26) k) → gG g_T g_F (gCall g_T g_F sN sX d) sN sX (g_T 46) Q 2 [gR 19, gI i] [] g_SH μ 0 0 := by
    refine g_up (fun i i0 i1 ih hk => ?_) (fun hk => ?_)
    · refine gB_gG [2] 300 ?_
      (conv => whnf); try simp only [gO, gWe, ne_eq, Nat.reduceEqDiff, not_false_eq_true, true_or, or_true, true_and]
      repeat' (first | exact True.intro | (refine ⟨fun hb => ?_, fun hb => ?_⟩ <;> first | (exfalso; omega; done) | exact absurd True.intro hb | ((conv => whnf); try simp only [gO, gWe, ne_eq, Nat.reduceEqDiff, not_false_eq_true, true_or, or_true, true_and])) | (refine ⟨by omega, ?_⟩; (conv => whnf); try simp only [gO, gWe, ne_eq, Nat.reduceEqDiff, not_false_eq_true, true_or, or_true, true_and]) | (refine ⟨fun hb => ?_, ?_⟩ <;> first | (exfalso; omega; done) | exact absurd True.intro hb | ((conv => whnf); try simp only [gO, gWe, ne_eq, Nat.reduceEqDiff, not_false_eq_true, true_or, or_true, true_and])) | fail)
      · refine ih (fun k a0 a1 => ?_)
        by_cases c : k = i
        · subst c; omega
        · exact hk k a0 (by omega)
      · exact k1 (fun hh => hb (hh i i0 i1))
    · refine gB_gG [] 300 ?_
      (conv => whnf); try simp only [gO, gWe, ne_eq, Nat.reduceEqDiff, not_false_eq_true, true_or, or_true, true_and]
      repeat' (first | exact True.intro | (refine ⟨fun hb => ?_, fun hb => ?_⟩ <;> first | (exfalso; omega; done) | exact absurd True.intro hb | ((conv => whnf); try simp only [gO, gWe, ne_eq, Nat.reduceEqDiff, not_false_eq_true, true_or, or_true, true_and])) | (refine ⟨by omega, ?_⟩; (conv => whnf); try simp only [gO, gWe, ne_eq, Nat.reduceEqDiff, not_false_eq_true, true_or, or_true, true_and]) | (refine ⟨fun hb => ?_, ?_⟩ <;> first | (exfalso; omega; done) | exact absurd True.intro hb | ((conv => whnf); try simp only [gO, gWe, ne_eq, Nat.reduceEqDiff, not_false_eq_true, true_or, or_true, true_and])) | fail)
      exact k0 hk
  exact key 0 (by omega) (by omega) (fun k _ _ => by omega)
/-- where packing puts the vertex at k -/
def pkX (μ : MU) (sq : Int → Int) (y k : Int) : Int := gSum (fun j => xWd μ (sq ((μ 23) y + j)) + 1) (k - (μ 23) y).toNat
theorem xWd_b {μ : MU} (hG : iG μ) {v : Int} (h0 : 0 ≤ v) : 1 ≤ xWd μ v ∧ xWd μ v ≤ 9 := by
  unfold xWd
  by_cases hc : v < (μ 1 0)
  · rw [if_pos hc]; exact (hG.2.1 v h0 hc).1
  · rw [if_neg hc]; omega
theorem pkX_b {μ : MU} {sq pl : Int → Int} (hG : iG μ) (hL : iL μ) (hN : iN μ) (hO : iO μ sq pl) {y k : Int} (y0 : 0 ≤ y) (y1 : y < (μ 9 1)) (k0 : (μ 23) y ≤ k) (k1 : k ≤ (μ 23) (y + 1)) : 0 ≤ pkX μ sq y k ∧ pkX μ sq y k ≤ 600 := by
  have V := hN.1
  have st := (iN_st hG hL hN).1 y y0 y1
  have a := gSum_b (f := fun j => xWd μ (sq ((μ 23) y + j)) + 1) (a := 0) (b := 10) (k - (μ 23) y).toNat (fun i i0 i1 => by
    have b := xWd_b hG (hO.1 y y0 y1 ((μ 23) y + i) (by omega) (by omega)).1.1
    omega)
  unfold pkX
  omega
theorem pkX_s {μ : MU} {sq : Int → Int} {y k : Int} (k0 : (μ 23) y ≤ k) : pkX μ sq y (k + 1) = pkX μ sq y k + (xWd μ (sq k) + 1) := by
  unfold pkX
  rw [show (k + 1 - (μ 23) y).toNat = (k - (μ 23) y).toNat + 1 by omega, gSum, show (μ 23) y + ((k - (μ 23) y).toNat : Int) = k by omega]
theorem pkX_c {μ ν : MU} (h : hSt μ ν) : pkX ν = pkX μ := by
  funext sq y k
  unfold pkX
  rw [xWd_c h, h 23 (by decide) (by decide)]
theorem t_1 {D : Nat} (hD : 2 ≤ D) {μ : MU} {Q : GQ} {pl : Int → Int} (hG : iG μ) (hL : iL μ) (hN : iN μ) (hO : iO μ (μ 24) pl) (h : ∀ ν : MU, gFr [34] μ ν → (∀ y k : Int, 0 ≤ y → y < (μ 9 1) → (μ 23) y ≤ k → k < (μ 23) (y + 1) → (ν 34) ((μ 24) k) = pkX μ (μ 24) y k) → Q none g_SH ν) : gCall g_T g_F sN sX D 1 [gR 33] g_SH μ Q := by
  have V := hN.1
  have G := hG.1
  have L := hL.2.2.2.1
  obtain ⟨d, rfl⟩ := gD (show 1 ≤ D by omega)
  refine gC 300 [2] rfl ?_
  (conv => whnf); try simp only [gO, gWe, ne_eq, Nat.reduceEqDiff, not_false_eq_true, true_or, or_true, true_and]
  have out : ∀ y : Int, 0 ≤ y → y ≤ (μ 9 1) → ∀ (ν : MU) (x1 x2 x3 : GV), gFr [34] μ ν → (∀ z k : Int, 0 ≤ z → z < y → (μ 23) z ≤ k → k < (μ 23) (z + 1) → (ν 34) ((μ 24) k) = pkX μ (μ 24) z k) → gG g_T g_F (gCall g_T g_F sN sX d) sN sX (g_T 1) Q 2 [gR 33, gI y, x1, x2, x3] [] g_SH ν 0 0 := by
    refine g_up (fun y y0 y1 ih ν x1 x2 x3 hν hp => ?_) (fun ν x1 x2 x3 hν hp => ?_)
    · have st := (iN_st hG hL hN).1 y y0 y1
      have inn : ∀ k : Int, (μ 23) y ≤ k → k ≤ (μ 23) (y + 1) → ∀ (ν : MU) (x3 : GV), gFr [34] μ ν → (∀ z k : Int, 0 ≤ z → z < y → (μ 23) z ≤ k → k < (μ 23) (z + 1) → (ν 34) ((μ 24) k) = pkX μ (μ 24) z k) → (∀ j : Int, (μ 23) y ≤ j → j < k → (ν 34) ((μ 24) j) = pkX μ (μ 24) y j) → gG g_T g_F (gCall g_T g_F sN sX d) sN sX (g_T 1) Q 25 [gR 33, gI y, gI (pkX μ (μ 24) y k), gI k, x3] [] g_SH ν 0 0 := by
        refine g_up (fun k k0 k1 ihk ν x3 hν hp hq => ?_) (fun ν x3 hν hp hq => ?_)
        · have s1 : hSt μ ν := hν.st (by decide)
          have f2 : (ν 23) (y + 1) = (μ 23) (y + 1) := by rw [s1 23 (by decide) (by decide)]
          have f3 : (ν 24) k = (μ 24) k := by rw [hν 24 (by decide)]
          have rg := (hO.1 y y0 y1 k k0 k1).1
          have b := pkX_b hG hL hN hO y0 y1 k0 (by omega)
          have wb := xWd_b hG rg.1
          rw [pkX_s k0] at ihk
          refine gB_gG [25] 300 ?_
          (conv => whnf); try simp only [gO, gWe, ne_eq, Nat.reduceEqDiff, not_false_eq_true, true_or, or_true, true_and]
          repeat' (first | exact True.intro | (refine ⟨fun hb => ?_, fun hb => ?_⟩ <;> first | (exfalso; omega; done) | exact absurd True.intro hb | ((conv => whnf); try simp only [gO, gWe, ne_eq, Nat.reduceEqDiff, not_false_eq_true, true_or, or_true, true_and])) | (refine ⟨by omega, ?_⟩; (conv => whnf); try simp only [gO, gWe, ne_eq, Nat.reduceEqDiff, not_false_eq_true, true_or, or_true, true_and]) | (refine ⟨fun hb => ?_, ?_⟩ <;> first | (exfalso; omega; done) | exact absurd True.intro hb | ((conv => whnf); try simp only [gO, gWe, ne_eq, Nat.reduceEqDiff, not_false_eq_true, true_or, or_true, true_and])) | fail)
          have s2 : hSt μ (gW ν 34 ((ν 24) k) (pkX μ (μ 24) y k)) := (hν.W (by decide)).st (by decide)
          refine t_42 (by omega) (iG_c s2 hG) (by omega) ?_
          rw [xWd_c s2, f3]
          (conv => whnf); try simp only [gO, gWe, ne_eq, Nat.reduceEqDiff, not_false_eq_true, true_or, or_true, true_and]
          repeat' (first | exact True.intro | (refine ⟨fun hb => ?_, fun hb => ?_⟩ <;> first | (exfalso; omega; done) | exact absurd True.intro hb | ((conv => whnf); try simp only [gO, gWe, ne_eq, Nat.reduceEqDiff, not_false_eq_true, true_or, or_true, true_and])) | (refine ⟨by omega, ?_⟩; (conv => whnf); try simp only [gO, gWe, ne_eq, Nat.reduceEqDiff, not_false_eq_true, true_or, or_true, true_and]) | (refine ⟨fun hb => ?_, ?_⟩ <;> first | (exfalso; omega; done) | exact absurd True.intro hb | ((conv => whnf); try simp only [gO, gWe, ne_eq, Nat.reduceEqDiff, not_false_eq_true, true_or, or_true, true_and])) | fail)
          have dif : ∀ (z j : Int), 0 ≤ z → z < (μ 9 1) → (μ 23) z ≤ j → j < (μ 23) (z + 1) → j ≠ k → (μ 24) j ≠ (μ 24) k := fun z j z0 z1 j0 j1 hj hh => by
            have sz := (iN_st hG hL hN).1 z z0 z1
            exact hj (iO_inj hG hL hN hO (by omega) (by omega) (by omega) (by omega) hh)
          refine ihk _ _ (hν.W (by decide)) (fun z j z0 z1 j0 j1 => ?_) (fun j j0 j1 => ?_)
          · have mz := iN_mon hG hL hN (y := z + 1) (z := y) (by omega) (by omega) (by omega)
            rw [gWn _ _ _ (dif z j z0 (by omega) j0 j1 (by omega))]
            exact hp z j z0 z1 j0 j1
          · by_cases c : j = k
            · subst c; rw [gWe]
            · rw [gWn _ _ _ (dif y j y0 y1 j0 (by omega) c)]
              exact hq j j0 (by omega)
        · have s1 : hSt μ ν := hν.st (by decide)
          have f2 : (ν 23) (y + 1) = (μ 23) (y + 1) := by rw [s1 23 (by decide) (by decide)]
          refine gB_gG [2] 300 ?_
          (conv => whnf); try simp only [gO, gWe, ne_eq, Nat.reduceEqDiff, not_false_eq_true, true_or, or_true, true_and]
          repeat' (first | exact True.intro | (refine ⟨fun hb => ?_, fun hb => ?_⟩ <;> first | (exfalso; omega; done) | exact absurd True.intro hb | ((conv => whnf); try simp only [gO, gWe, ne_eq, Nat.reduceEqDiff, not_false_eq_true, true_or, or_true, true_and])) | (refine ⟨by omega, ?_⟩; (conv => whnf); try simp only [gO, gWe, ne_eq, Nat.reduceEqDiff, not_false_eq_true, true_or, or_true, true_and]) | (refine ⟨fun hb => ?_, ?_⟩ <;> first | (exfalso; omega; done) | exact absurd True.intro hb | ((conv => whnf); try simp only [gO, gWe, ne_eq, Nat.reduceEqDiff, not_false_eq_true, true_or, or_true, true_and])) | fail)
          refine ih ν _ _ _ hν (fun z k z0 z1 k0 k1 => ?_)
          by_cases c : z = y
          · subst c; exact hq k k0 k1
          · exact hp z k z0 (by omega) k0 k1
      have s1 : hSt μ ν := hν.st (by decide)
      have f9 : (ν 9 1) = (μ 9 1) := by rw [s1 9 (by decide) (by decide)]
      have f1 : (ν 23) y = (μ 23) y := by rw [s1 23 (by decide) (by decide)]
      refine gB_gG [25] 300 ?_
      (conv => whnf); try simp only [gO, gWe, ne_eq, Nat.reduceEqDiff, not_false_eq_true, true_or, or_true, true_and]
      repeat' (first | exact True.intro | (refine ⟨fun hb => ?_, fun hb => ?_⟩ <;> first | (exfalso; omega; done) | exact absurd True.intro hb | ((conv => whnf); try simp only [gO, gWe, ne_eq, Nat.reduceEqDiff, not_false_eq_true, true_or, or_true, true_and])) | (refine ⟨by omega, ?_⟩; (conv => whnf); try simp only [gO, gWe, ne_eq, Nat.reduceEqDiff, not_false_eq_true, true_or, or_true, true_and]) | (refine ⟨fun hb => ?_, ?_⟩ <;> first | (exfalso; omega; done) | exact absurd True.intro hb | ((conv => whnf); try simp only [gO, gWe, ne_eq, Nat.reduceEqDiff, not_false_eq_true, true_or, or_true, true_and])) | fail)
      rw [f1]
      have e : pkX μ (μ 24) y ((μ 23) y) = 0 := by unfold pkX; rw [show ((μ 23) y - (μ 23) y).toNat = 0 by omega]; rfl
      have z := inn ((μ 23) y) (by omega) (by omega) ν x3 hν hp (fun j j0 j1 => by omega)
      rw [e] at z
      exact z
    · have s1 : hSt μ ν := hν.st (by decide)
      have f9 : (ν 9 1) = (μ 9 1) := by rw [s1 9 (by decide) (by decide)]
      refine gB_gG [] 300 ?_
      (conv => whnf); try simp only [gO, gWe, ne_eq, Nat.reduceEqDiff, not_false_eq_true, true_or, or_true, true_and]
      repeat' (first | exact True.intro | (refine ⟨fun hb => ?_, fun hb => ?_⟩ <;> first | (exfalso; omega; done) | exact absurd True.intro hb | ((conv => whnf); try simp only [gO, gWe, ne_eq, Nat.reduceEqDiff, not_false_eq_true, true_or, or_true, true_and])) | (refine ⟨by omega, ?_⟩; (conv => whnf); try simp only [gO, gWe, ne_eq, Nat.reduceEqDiff, not_false_eq_true, true_or, or_true, true_and]) | (refine ⟨fun hb => ?_, ?_⟩ <;> first | (exfalso; omega; done) | exact absurd True.intro hb | ((conv => whnf); try simp only [gO, gWe, ne_eq, Nat.reduceEqDiff, not_false_eq_true, true_or, or_true, true_and])) | fail)
      exact h ν hν (fun y k y0 y1 => hp y k y0 y1)
  exact out 0 (by omega) (by omega) μ _ _ _ gFr.rf (fun z k z0 z1 => by omega)
