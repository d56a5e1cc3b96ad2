variable {sN : Int} {sX : Int → Int}
/-! the class closes the groups of a layer, sets places -/
/-- places set one after another -/
def setP (sq : Int → Int) (s : Int) : Nat → (Int → Int) → Int → Int
  | 0, f => f
  | c + 1, f => gUp (setP sq s c f) (sq (s + c)) c
theorem setP_o {sq : Int → Int} {s : Int} {f : Int → Int} {v : Int} : ∀ c : Nat, (∀ k : Int, s ≤ k → k < s + c → sq k ≠ v) → setP sq s c f v = f v := by
  intro c
  induction c with
  | zero => intro _; rfl
  | succ c ih =>
    intro h
    show gUp _ _ _ v = _
    rw [gUp_o _ _ (fun e => h (s + c) (by omega) (by omega) e.symm)]
    exact ih (fun k k0 k1 => h k k0 (by omega))
theorem setP_i {sq : Int → Int} {s : Int} {f : Int → Int} : ∀ c : Nat, (∀ k k' : Int, s ≤ k → k < k' → k' < s + c → sq k ≠ sq k') → ∀ k : Int, s ≤ k → k < s + c → setP sq s c f (sq k) = k - s := by
  intro c
  induction c with
  | zero => intro _ k k0 k1; omega
  | succ c ih =>
    intro h k k0 k1
    show gUp _ _ _ (sq k) = _
    by_cases hc : k = s + c
    · subst hc; rw [gUp_s]; omega
    · rw [gUp_o _ _ (h k (s + c) k0 (by omega) (by omega))]
      exact ih (fun a b a0 a1 a2 => h a b a0 a1 (by omega)) k k0 (by omega)
theorem t_48 {D : Nat} (hD : 1 ≤ D) {μ : MU} {Q : GQ} {y : Int} (hG : iG μ) (hL : iL μ) (hN : iN μ) (y0 : 0 ≤ y) (y1 : y < (μ 9 1)) (hr : ∀ k : Int, (μ 23) y ≤ k → k < (μ 23) (y + 1) → 0 ≤ (μ 24) k ∧ (μ 24) k < 60) (hd : ∀ k k' : Int, (μ 23) y ≤ k → k < k' → k' < (μ 23) (y + 1) → (μ 24) k ≠ (μ 24) k') (h : ∀ ν : MU, gFr [25] μ ν → (ν 25) = setP (μ 24) ((μ 23) y) ((μ 23) (y + 1) - (μ 23) y).toNat (μ 25) → Q none g_SH ν) : gCall g_T g_F sN sX D 48 [gR 19, gI y] g_SH μ Q := by
  have L := hL.2.2.2.1
  have V := hN.1
  have G := hG.1
  have st := (iN_st hG hL hN).1 y y0 y1
  obtain ⟨d, rfl⟩ := gD (show 1 ≤ D by omega)
  refine gC 300 [7] rfl ?_
  (conv => whnf); try simp only [gO, gWe, ne_eq, Nat.reduceEqDiff, not_false_eq_true, true_or, or_true, true_and]
  repeat' (first | exact True.intro | (refine ⟨fun hb => ?_, fun hb => ?_⟩ <;> first | (exfalso; omega; done) | exact absurd True.intro hb | ((conv => whnf); try simp only [gO, gWe, ne_eq, Nat.reduceEqDiff, not_false_eq_true, true_or, or_true, true_and])) | (refine ⟨by omega, ?_⟩; (conv => whnf); try simp only [gO, gWe, ne_eq, Nat.reduceEqDiff, not_false_eq_true, true_or, or_true, true_and]) | (refine ⟨fun hb => ?_, ?_⟩ <;> first | (exfalso; omega; done) | exact absurd True.intro hb | ((conv => whnf); try simp only [gO, gWe, ne_eq, Nat.reduceEqDiff, not_false_eq_true, true_or, or_true, true_and])) | fail)
  have key : ∀ k : Int, (μ 23) y ≤ k → k ≤ (μ 23) (y + 1) → ∀ ν : MU, gFr [25] μ ν → (ν 25) = setP (μ 24) ((μ 23) y) (k - (μ 23) y).toNat (μ 25) → gG g_T g_F (gCall g_T g_F sN sX d) sN sX (g_T 48) Q 7 [gR 19, gI y, gI k] [] g_SH ν 0 0 := by
    refine g_up (fun k k0 k1 ih ν hν h1 => ?_) (fun ν hν h1 => ?_)
    · have s1 : hSt μ ν := hν.st (by decide)
      have e1 : (ν 23) = (μ 23) := s1 23 (by decide) (by decide)
      have e2 : (ν 24) = (μ 24) := hν 24 (by decide)
      have r := hr k k0 k1
      have f1 : (ν 23) y = (μ 23) y := by rw [e1]
      have f2 : (ν 23) (y + 1) = (μ 23) (y + 1) := by rw [e1]
      have f3 : (ν 24) k = (μ 24) k := by rw [e2]
      refine gB_gG [7] 300 ?_
      (conv => whnf); try simp only [gO, gWe, ne_eq, Nat.reduceEqDiff, not_false_eq_true, true_or, or_true, true_and]
      repeat' (first | exact True.intro | (refine ⟨fun hb => ?_, fun hb => ?_⟩ <;> first | (exfalso; omega; done) | exact absurd True.intro hb | ((conv => whnf); try simp only [gO, gWe, ne_eq, Nat.reduceEqDiff, not_false_eq_true, true_or, or_true, true_and])) | (refine ⟨by omega, ?_⟩; (conv => whnf); try simp only [gO, gWe, ne_eq, Nat.reduceEqDiff, not_false_eq_true, true_or, or_true, true_and]) | (refine ⟨fun hb => ?_, ?_⟩ <;> first | (exfalso; omega; done) | exact absurd True.intro hb | ((conv => whnf); try simp only [gO, gWe, ne_eq, Nat.reduceEqDiff, not_false_eq_true, true_or, or_true, true_and])) | fail)
      rw [f3, f1]
      refine ih _ (hν.W (by decide)) ?_
      rw [show (k + 1 - (μ 23) y).toNat = (k - (μ 23) y).toNat + 1 by omega]
      funext v
      show (if v = (μ 24) k then k - (μ 23) y else (ν 25) v) = (if v = (μ 24) ((μ 23) y + ((k - (μ 23) y).toNat : Int)) then ((k - (μ 23) y).toNat : Int) else setP (μ 24) ((μ 23) y) (k - (μ 23) y).toNat (μ 25) v)
      rw [← h1, show ((k - (μ 23) y).toNat : Int) = k - (μ 23) y by omega, show (μ 23) y + (k - (μ 23) y) = k by omega]
    · have s1 : hSt μ ν := hν.st (by decide)
      have e1 : (ν 23) = (μ 23) := s1 23 (by decide) (by decide)
      have f2 : (ν 23) (y + 1) = (μ 23) (y + 1) := by rw [e1]
      refine gB_gG [7] 300 ?_
      (conv => whnf); try simp only [gO, gWe, ne_eq, Nat.reduceEqDiff, not_false_eq_true, true_or, or_true, true_and]
      repeat' (first | exact True.intro | (refine ⟨fun hb => ?_, fun hb => ?_⟩ <;> first | (exfalso; omega; done) | exact absurd True.intro hb | ((conv => whnf); try simp only [gO, gWe, ne_eq, Nat.reduceEqDiff, not_false_eq_true, true_or, or_true, true_and])) | (refine ⟨by omega, ?_⟩; (conv => whnf); try simp only [gO, gWe, ne_eq, Nat.reduceEqDiff, not_false_eq_true, true_or, or_true, true_and]) | (refine ⟨fun hb => ?_, ?_⟩ <;> first | (exfalso; omega; done) | exact absurd True.intro hb | ((conv => whnf); try simp only [gO, gWe, ne_eq, Nat.reduceEqDiff, not_false_eq_true, true_or, or_true, true_and])) | fail)
      exact h ν hν h1
  exact key ((μ 23) y) (by omega) (by omega) μ gFr.rf (by rw [show ((μ 23) y - (μ 23) y).toNat = 0 by omega]; rfl)
theorem t_52 {D : Nat} (hD : 2 ≤ D) {μ : MU} {Q : GQ} {s e g i : Int} {w : Int × (Int → Int)} (hG : iG μ) (hse : 0 ≤ s ∧ s ≤ e ∧ e ≤ 60) (hi : s ≤ i ∧ i ≤ e) (hr : ∀ k : Int, s ≤ k → k < e → 0 ≤ (μ 24) k) (hV : ∀ c : Nat, i + c ≤ e → iV s e (μ 24) (hPut μ (μ 24) g i c w)) (hw : ∀ r : Int, 0 ≤ r → r < w.1 → (μ 28) (s + r) = w.2 r) (h : ∀ ν : MU, gFr [28] μ ν → (∀ r : Int, 0 ≤ r → r < (hPut μ (μ 24) g i (e - i).toNat w).1 → (ν 28) (s + r) = (hPut μ (μ 24) g i (e - i).toNat w).2 r) → Q (some (gI (s + (hPut μ (μ 24) g i (e - i).toNat w).1))) g_SH ν) : gCall g_T g_F sN sX D 52 [gR 19, gI g, gI i, gI e, gI (s + w.1)] g_SH μ Q := by
  have G := hG.1
  obtain ⟨d, rfl⟩ := gD (show 1 ≤ D by omega)
  refine gC 300 [7] rfl ?_
  (conv => whnf); try simp only [gO, gWe, ne_eq, Nat.reduceEqDiff, not_false_eq_true, true_or, or_true, true_and]
  have key : ∀ k : Int, i ≤ k → k ≤ e → ∀ ν : MU, gFr [28] μ ν → (∀ r : Int, 0 ≤ r → r < (hPut μ (μ 24) g i (k - i).toNat w).1 → (ν 28) (s + r) = (hPut μ (μ 24) g i (k - i).toNat w).2 r) → gG g_T g_F (gCall g_T g_F sN sX d) sN sX (g_T 52) Q 7 [gR 19, gI g, gI i, gI e, gI (s + w.1), gI (s + (hPut μ (μ 24) g i (k - i).toNat w).1), gI k] [] g_SH ν 0 0 := by
    refine g_up (fun k k0 k1 ih ν hν h1 => ?_) (fun ν hν h1 => ?_)
    · have s1 : hSt μ ν := hν.st (by decide)
      have e2 : (ν 24) = (μ 24) := hν 24 (by decide)
      have v0 := hV (k - i).toNat (by omega)
      have v1 := hV ((k - i).toNat + 1) (by omega)
      have n0 := iV_n (by omega) v0
      have n1 := iV_n (by omega) v1
      have n2 := v0.1
      rw [show (k + 1 - i).toNat = (k - i).toNat + 1 by omega] at ih
      have ek : i + ((k - i).toNat : Int) = k := by omega
      have st : hPut μ (μ 24) g i ((k - i).toNat + 1) w = if xGr μ ((μ 24) k) = g then ((hPut μ (μ 24) g i (k - i).toNat w).1 + 1, gUp (hPut μ (μ 24) g i (k - i).toNat w).2 (hPut μ (μ 24) g i (k - i).toNat w).1 ((μ 24) k)) else hPut μ (μ 24) g i (k - i).toNat w := by
        show (if xGr μ ((μ 24) (i + ((k - i).toNat : Int))) = g then _ else _) = _
        rw [ek]
      rw [st] at ih n1
      have f3 : (ν 24) k = (μ 24) k := by rw [e2]
      have r3 := hr k (by omega) k1
      refine gB_gG [7] 300 ?_
      (conv => whnf); try simp only [gO, gWe, ne_eq, Nat.reduceEqDiff, not_false_eq_true, true_or, or_true, true_and]
      repeat' (first | exact True.intro | (refine ⟨fun hb => ?_, fun hb => ?_⟩ <;> first | (exfalso; omega; done) | exact absurd True.intro hb | ((conv => whnf); try simp only [gO, gWe, ne_eq, Nat.reduceEqDiff, not_false_eq_true, true_or, or_true, true_and])) | (refine ⟨by omega, ?_⟩; (conv => whnf); try simp only [gO, gWe, ne_eq, Nat.reduceEqDiff, not_false_eq_true, true_or, or_true, true_and]) | (refine ⟨fun hb => ?_, ?_⟩ <;> first | (exfalso; omega; done) | exact absurd True.intro hb | ((conv => whnf); try simp only [gO, gWe, ne_eq, Nat.reduceEqDiff, not_false_eq_true, true_or, or_true, true_and])) | fail)
      refine t_41 (by omega) (iG_c s1 hG) (by omega) ?_
      rw [xGr_c s1, f3]
      (conv => whnf); try simp only [gO, gWe, ne_eq, Nat.reduceEqDiff, not_false_eq_true, true_or, or_true, true_and]
      repeat' (first | exact True.intro | (refine ⟨fun hb => ?_, fun hb => ?_⟩ <;> first | (exfalso; omega; done) | exact absurd True.intro hb | ((conv => whnf); try simp only [gO, gWe, ne_eq, Nat.reduceEqDiff, not_false_eq_true, true_or, or_true, true_and])) | (refine ⟨by omega, ?_⟩; (conv => whnf); try simp only [gO, gWe, ne_eq, Nat.reduceEqDiff, not_false_eq_true, true_or, or_true, true_and]) | (refine ⟨fun hb => ?_, ?_⟩ <;> first | (exfalso; omega; done) | exact absurd True.intro hb | ((conv => whnf); try simp only [gO, gWe, ne_eq, Nat.reduceEqDiff, not_false_eq_true, true_or, or_true, true_and])) | fail)
      · rw [if_neg hb] at ih
        exact ih ν hν h1
      · rw [if_pos (by omega)] at ih n1
        dsimp only at ih n1
        rw [← Int.add_assoc] at ih
        rw [f3]
        repeat' (first | exact True.intro | (refine ⟨fun hb => ?_, fun hb => ?_⟩ <;> first | (exfalso; omega; done) | exact absurd True.intro hb | ((conv => whnf); try simp only [gO, gWe, ne_eq, Nat.reduceEqDiff, not_false_eq_true, true_or, or_true, true_and])) | (refine ⟨by omega, ?_⟩; (conv => whnf); try simp only [gO, gWe, ne_eq, Nat.reduceEqDiff, not_false_eq_true, true_or, or_true, true_and]) | (refine ⟨fun hb => ?_, ?_⟩ <;> first | (exfalso; omega; done) | exact absurd True.intro hb | ((conv => whnf); try simp only [gO, gWe, ne_eq, Nat.reduceEqDiff, not_false_eq_true, true_or, or_true, true_and])) | fail)
        refine ih _ (hν.W (by decide)) (fun r r0 r1 => ?_)
        by_cases c : r = (hPut μ (μ 24) g i (k - i).toNat w).1
        · subst c
          rw [gWe, gUp_s]
        · rw [gWn _ _ _ (by omega), gUp_o _ _ c]
          exact h1 r r0 (by omega)
    · refine gB_gG [7] 300 ?_
      (conv => whnf); try simp only [gO, gWe, ne_eq, Nat.reduceEqDiff, not_false_eq_true, true_or, or_true, true_and]
      repeat' (first | exact True.intro | (refine ⟨fun hb => ?_, fun hb => ?_⟩ <;> first | (exfalso; omega; done) | exact absurd True.intro hb | ((conv => whnf); try simp only [gO, gWe, ne_eq, Nat.reduceEqDiff, not_false_eq_true, true_or, or_true, true_and])) | (refine ⟨by omega, ?_⟩; (conv => whnf); try simp only [gO, gWe, ne_eq, Nat.reduceEqDiff, not_false_eq_true, true_or, or_true, true_and]) | (refine ⟨fun hb => ?_, ?_⟩ <;> first | (exfalso; omega; done) | exact absurd True.intro hb | ((conv => whnf); try simp only [gO, gWe, ne_eq, Nat.reduceEqDiff, not_false_eq_true, true_or, or_true, true_and])) | fail)
      exact h ν hν h1
  have z := key i (by omega) (by omega) μ gFr.rf
  rw [show (i - i).toNat = 0 by omega] at z
  exact z hw
theorem hPut_c {μ ν : MU} (h : hSt μ ν) : hPut ν = hPut μ := by
  funext sq g i c q
  induction c with
  | zero => rfl
  | succ c ih =>
    show (if xGr ν (sq (i + c)) = g then ((hPut ν sq g i c q).1 + 1, gUp (hPut ν sq g i c q).2 (hPut ν sq g i c q).1 (sq (i + c))) else hPut ν sq g i c q) = _
    rw [ih, xGr_c h]
    rfl
/-- the groups of a layer closed, and its places -/
def clo2 (μ : MU) (y : Int) (s : GO) : GO := (cloS μ s.1 y, setP (cloS μ s.1 y) ((μ 23) y) ((μ 23) (y + 1) - (μ 23) y).toNat s.2)
theorem clo2_o {μ : MU} {s : GO} {pl : Int → Int} (hG : iG μ) (hL : iL μ) (hN : iN μ) (hO : iO μ s.1 pl) {y : Int} (y0 : 0 ≤ y) (y1 : y < (μ 9 1)) (hp : ∀ v : Int, 0 ≤ v → v < (μ 19 2) → (μ 21) v ≠ y → s.2 v = pl v) : iO μ (clo2 μ y s).1 (clo2 μ y s).2 := by
  have cv := cloS_v hG hL hN hO y0 y1
  have st := (iN_st hG hL hN).1 y y0 y1
  refine iO_clo hG hL hN hO y0 y1 (fun k k0 k1 => ?_) (fun v v0 v1 hv => ?_)
  · exact setP_i _ (fun a b a0 a1 a2 => cv.2.2.2.1 a b a0 a1 (by omega)) k k0 (by omega)
  · rw [← hp v v0 v1 hv]
    refine setP_o _ (fun k k0 k1 hk => ?_)
    obtain ⟨a, a0, a1, ha⟩ := cv.2.1 k k0 (by omega)
    have := hO.1 y y0 y1 a a0 a1
    rw [hk] at ha
    rw [← ha] at this
    exact hv this.2.1
theorem t_51 {D : Nat} (hD : 3 ≤ D) {μ : MU} {Q : GQ} {y : Int} {pl : Int → Int} (hG : iG μ) (hL : iL μ) (hN : iN μ) (hO : iO μ (μ 24) pl) (y0 : 0 ≤ y) (y1 : y < (μ 9 1)) (h : ∀ ν : MU, gFr [24, 25, 28] μ ν → ((ν 24), (ν 25)) = clo2 μ y ((μ 24), (μ 25)) → Q none g_SH ν) : gCall g_T g_F sN sX D 51 [gR 19, gI y] g_SH μ Q := by
  have L := hL.2.2.2.1
  have V := hN.1
  have G := hG.1
  have st := (iN_st hG hL hN).1 y y0 y1
  have cv := cloS_v hG hL hN hO y0 y1
  have hr : ∀ k : Int, (μ 23) y ≤ k → k < (μ 23) (y + 1) → 0 ≤ (μ 24) k := fun k k0 k1 => (hO.1 y y0 y1 k k0 k1).1.1
  have hinj : ∀ k k' : Int, (μ 23) y ≤ k → k < (μ 23) (y + 1) → (μ 23) y ≤ k' → k' < (μ 23) (y + 1) → (μ 24) k = (μ 24) k' → k = k' := fun k k' k0 k1 k2 k3 h => iO_inj hG hL hN hO (by omega) (by omega) (by omega) (by omega) h
  have ci := hClo_i hG hr hinj
  generalize hs : (μ 23) y = s at *
  generalize he : (μ 23) (y + 1) = e at *
  obtain ⟨d, rfl⟩ := gD (show 1 ≤ D by omega)
  refine gC 300 [17] rfl ?_
  (conv => whnf); try simp only [gO, gWe, ne_eq, Nat.reduceEqDiff, not_false_eq_true, true_or, or_true, true_and]
  repeat' (first | exact True.intro | (refine ⟨fun hb => ?_, fun hb => ?_⟩ <;> first | (exfalso; omega; done) | exact absurd True.intro hb | ((conv => whnf); try simp only [gO, gWe, ne_eq, Nat.reduceEqDiff, not_false_eq_true, true_or, or_true, true_and])) | (refine ⟨by omega, ?_⟩; (conv => whnf); try simp only [gO, gWe, ne_eq, Nat.reduceEqDiff, not_false_eq_true, true_or, or_true, true_and]) | (refine ⟨fun hb => ?_, ?_⟩ <;> first | (exfalso; omega; done) | exact absurd True.intro hb | ((conv => whnf); try simp only [gO, gWe, ne_eq, Nat.reduceEqDiff, not_false_eq_true, true_or, or_true, true_and])) | fail)
  have key : ∀ k : Int, s ≤ k → k ≤ e → ∀ (ν : MU) (x : GV), gFr [28] μ ν → (∀ r : Int, 0 ≤ r → r < (hClo μ (μ 24) s e (k - s).toNat).1.1 → (ν 28) (s + r) = (hClo μ (μ 24) s e (k - s).toNat).1.2 r) → gG g_T g_F (gCall g_T g_F sN sX d) sN sX (g_T 51) Q 17 [gR 19, gI y, gI (s + (hClo μ (μ 24) s e (k - s).toNat).1.1), gI (hClo μ (μ 24) s e (k - s).toNat).2, gI k, x] [] g_SH ν 0 0 := by
    refine g_up (fun k k0 k1 ih ν x hν h1 => ?_) (fun ν x hν h1 => ?_)
    · have s1 : hSt μ ν := hν.st (by decide)
      have e1 : (ν 23) = (μ 23) := s1 23 (by decide) (by decide)
      have e2 : (ν 24) = (μ 24) := hν 24 (by decide)
      obtain ⟨c1, c2, c3, c4, c5⟩ := ci (k - s).toNat (by omega)
      obtain ⟨d1, d2, d3, d4, d5⟩ := ci ((k - s).toNat + 1) (by omega)
      have n0 := iV_n (by omega) c1
      have n1 := iV_n (by omega) d1
      have n2 := c1.1
      have gb := xGr_b hG (hr k (by omega) (by omega))
      rw [show (k + 1 - s).toNat = (k - s).toNat + 1 by omega] at ih
      have ek : s + ((k - s).toNat : Int) = k := by omega
      have step : hClo μ (μ 24) s e ((k - s).toNat + 1) = if xGr μ ((μ 24) k) = 0 then (((hClo μ (μ 24) s e (k - s).toNat).1.1 + 1, gUp (hClo μ (μ 24) s e (k - s).toNat).1.2 (hClo μ (μ 24) s e (k - s).toNat).1.1 ((μ 24) k)), (hClo μ (μ 24) s e (k - s).toNat).2)
          else if gAnd (gShr (hClo μ (μ 24) s e (k - s).toNat).2 (xGr μ ((μ 24) k))) 1 = 0 then (hPut μ (μ 24) (xGr μ ((μ 24) k)) k (e - k).toNat (hClo μ (μ 24) s e (k - s).toNat).1, gOr (hClo μ (μ 24) s e (k - s).toNat).2 (gShl 1 (xGr μ ((μ 24) k))))
          else hClo μ (μ 24) s e (k - s).toNat := by
        show (if xGr μ ((μ 24) (s + ((k - s).toNat : Int))) = 0 then _ else if gAnd (gShr _ (xGr μ ((μ 24) (s + ((k - s).toNat : Int))))) 1 = 0 then (hPut μ (μ 24) (xGr μ ((μ 24) (s + ((k - s).toNat : Int)))) (s + ((k - s).toNat : Int)) (e - (s + ((k - s).toNat : Int))).toNat _, _) else _) = _
        rw [ek]
      rw [step] at ih n1
      clear d1 d2 d3 d4 d5 step
      have ci' := hPut_i (μ := μ) (g := xGr μ ((μ 24) k)) hinj k0 c1 c4 c5
      generalize hClo μ (μ 24) s e (k - s).toNat = w at *
      have f1 : (ν 23) y = s := by rw [e1, hs]
      have f2 : (ν 23) (y + 1) = e := by rw [e1, he]
      have f3 : (ν 24) k = (μ 24) k := by rw [e2]
      have r3 := hr k (by omega) k1
      by_cases hg : xGr μ ((μ 24) k) = 0
      · rw [if_pos hg] at ih n1
        dsimp only at ih n1
        rw [← Int.add_assoc] at ih
        refine gB_gG [17] 300 ?_
        (conv => whnf); try simp only [gO, gWe, ne_eq, Nat.reduceEqDiff, not_false_eq_true, true_or, or_true, true_and]
        repeat' (first | exact True.intro | (refine ⟨fun hb => ?_, fun hb => ?_⟩ <;> first | (exfalso; omega; done) | exact absurd True.intro hb | ((conv => whnf); try simp only [gO, gWe, ne_eq, Nat.reduceEqDiff, not_false_eq_true, true_or, or_true, true_and])) | (refine ⟨by omega, ?_⟩; (conv => whnf); try simp only [gO, gWe, ne_eq, Nat.reduceEqDiff, not_false_eq_true, true_or, or_true, true_and]) | (refine ⟨fun hb => ?_, ?_⟩ <;> first | (exfalso; omega; done) | exact absurd True.intro hb | ((conv => whnf); try simp only [gO, gWe, ne_eq, Nat.reduceEqDiff, not_false_eq_true, true_or, or_true, true_and])) | fail)
        refine t_41 (by omega) (iG_c s1 hG) (by omega) ?_
        rw [xGr_c s1, f3]
        (conv => whnf); try simp only [gO, gWe, ne_eq, Nat.reduceEqDiff, not_false_eq_true, true_or, or_true, true_and]
        repeat' (first | exact True.intro | (refine ⟨fun hb => ?_, fun hb => ?_⟩ <;> first | (exfalso; omega; done) | exact absurd True.intro hb | ((conv => whnf); try simp only [gO, gWe, ne_eq, Nat.reduceEqDiff, not_false_eq_true, true_or, or_true, true_and])) | (refine ⟨by omega, ?_⟩; (conv => whnf); try simp only [gO, gWe, ne_eq, Nat.reduceEqDiff, not_false_eq_true, true_or, or_true, true_and]) | (refine ⟨fun hb => ?_, ?_⟩ <;> first | (exfalso; omega; done) | exact absurd True.intro hb | ((conv => whnf); try simp only [gO, gWe, ne_eq, Nat.reduceEqDiff, not_false_eq_true, true_or, or_true, true_and])) | fail)
        rw [f3]
        repeat' (first | exact True.intro | (refine ⟨fun hb => ?_, fun hb => ?_⟩ <;> first | (exfalso; omega; done) | exact absurd True.intro hb | ((conv => whnf); try simp only [gO, gWe, ne_eq, Nat.reduceEqDiff, not_false_eq_true, true_or, or_true, true_and])) | (refine ⟨by omega, ?_⟩; (conv => whnf); try simp only [gO, gWe, ne_eq, Nat.reduceEqDiff, not_false_eq_true, true_or, or_true, true_and]) | (refine ⟨fun hb => ?_, ?_⟩ <;> first | (exfalso; omega; done) | exact absurd True.intro hb | ((conv => whnf); try simp only [gO, gWe, ne_eq, Nat.reduceEqDiff, not_false_eq_true, true_or, or_true, true_and])) | fail)
        refine ih _ _ (hν.W (by decide)) (fun r r0 r1 => ?_)
        by_cases c : r = w.1.1
        · subst c
          rw [gWe, gUp_s]
        · rw [gWn _ _ _ (by omega), gUp_o _ _ c]
          exact h1 r r0 (by omega)
      · rw [if_neg hg] at ih n1
        have bt := g_bit c2 (g := xGr μ ((μ 24) k)) (by omega)
        by_cases hbit : gAnd (gShr w.2 (xGr μ ((μ 24) k))) 1 = 0
        · rw [if_pos hbit] at ih n1
          have nb : ¬ gHas w.2 (xGr μ ((μ 24) k)) := fun h => by have := bt.2.1.mpr h; omega
          have ci2 := ci' (fun j j0 j1 hp he' => by
            rcases hp with p | p
            · omega
            · rw [he'] at p; exact nb p.2)
          refine gB_gG [17] 300 ?_
          (conv => whnf); try simp only [gO, gWe, ne_eq, Nat.reduceEqDiff, not_false_eq_true, true_or, or_true, true_and]
          repeat' (first | exact True.intro | (refine ⟨fun hb => ?_, fun hb => ?_⟩ <;> first | (exfalso; omega; done) | exact absurd True.intro hb | ((conv => whnf); try simp only [gO, gWe, ne_eq, Nat.reduceEqDiff, not_false_eq_true, true_or, or_true, true_and])) | (refine ⟨by omega, ?_⟩; (conv => whnf); try simp only [gO, gWe, ne_eq, Nat.reduceEqDiff, not_false_eq_true, true_or, or_true, true_and]) | (refine ⟨fun hb => ?_, ?_⟩ <;> first | (exfalso; omega; done) | exact absurd True.intro hb | ((conv => whnf); try simp only [gO, gWe, ne_eq, Nat.reduceEqDiff, not_false_eq_true, true_or, or_true, true_and])) | fail)
          refine t_41 (by omega) (iG_c s1 hG) (by omega) ?_
          rw [xGr_c s1, f3]
          (conv => whnf); try simp only [gO, gWe, ne_eq, Nat.reduceEqDiff, not_false_eq_true, true_or, or_true, true_and]
          repeat' (first | exact True.intro | (refine ⟨fun hb => ?_, fun hb => ?_⟩ <;> first | (exfalso; omega; done) | exact absurd True.intro hb | ((conv => whnf); try simp only [gO, gWe, ne_eq, Nat.reduceEqDiff, not_false_eq_true, true_or, or_true, true_and])) | (refine ⟨by omega, ?_⟩; (conv => whnf); try simp only [gO, gWe, ne_eq, Nat.reduceEqDiff, not_false_eq_true, true_or, or_true, true_and]) | (refine ⟨fun hb => ?_, ?_⟩ <;> first | (exfalso; omega; done) | exact absurd True.intro hb | ((conv => whnf); try simp only [gO, gWe, ne_eq, Nat.reduceEqDiff, not_false_eq_true, true_or, or_true, true_and])) | fail)
          rw [f2]
          have hp1 : hPut ν (ν 24) (xGr μ ((μ 24) k)) k (e - k).toNat w.1 = hPut μ (μ 24) (xGr μ ((μ 24) k)) k (e - k).toNat w.1 := by rw [e2, hPut_c s1]
          refine t_52 (by omega) (w := w.1) (iG_c s1 hG) (by omega) (by omega) (fun j j0 j1 => by rw [e2]; exact hr j j0 j1) (fun c hc => by rw [e2, hPut_c s1]; exact (ci2 c hc).1) h1 (fun ρ hρ h2 => ?_)
          rw [hp1] at h2 ⊢
          (conv => whnf); try simp only [gO, gWe, ne_eq, Nat.reduceEqDiff, not_false_eq_true, true_or, or_true, true_and]
          repeat' (first | exact True.intro | (refine ⟨fun hb => ?_, fun hb => ?_⟩ <;> first | (exfalso; omega; done) | exact absurd True.intro hb | ((conv => whnf); try simp only [gO, gWe, ne_eq, Nat.reduceEqDiff, not_false_eq_true, true_or, or_true, true_and])) | (refine ⟨by omega, ?_⟩; (conv => whnf); try simp only [gO, gWe, ne_eq, Nat.reduceEqDiff, not_false_eq_true, true_or, or_true, true_and]) | (refine ⟨fun hb => ?_, ?_⟩ <;> first | (exfalso; omega; done) | exact absurd True.intro hb | ((conv => whnf); try simp only [gO, gWe, ne_eq, Nat.reduceEqDiff, not_false_eq_true, true_or, or_true, true_and])) | fail)
          exact ih ρ _ (hν.tr hρ) h2
        · rw [if_neg hbit] at ih n1
          refine gB_gG [17] 300 ?_
          (conv => whnf); try simp only [gO, gWe, ne_eq, Nat.reduceEqDiff, not_false_eq_true, true_or, or_true, true_and]
          repeat' (first | exact True.intro | (refine ⟨fun hb => ?_, fun hb => ?_⟩ <;> first | (exfalso; omega; done) | exact absurd True.intro hb | ((conv => whnf); try simp only [gO, gWe, ne_eq, Nat.reduceEqDiff, not_false_eq_true, true_or, or_true, true_and])) | (refine ⟨by omega, ?_⟩; (conv => whnf); try simp only [gO, gWe, ne_eq, Nat.reduceEqDiff, not_false_eq_true, true_or, or_true, true_and]) | (refine ⟨fun hb => ?_, ?_⟩ <;> first | (exfalso; omega; done) | exact absurd True.intro hb | ((conv => whnf); try simp only [gO, gWe, ne_eq, Nat.reduceEqDiff, not_false_eq_true, true_or, or_true, true_and])) | fail)
          refine t_41 (by omega) (iG_c s1 hG) (by omega) ?_
          rw [xGr_c s1, f3]
          (conv => whnf); try simp only [gO, gWe, ne_eq, Nat.reduceEqDiff, not_false_eq_true, true_or, or_true, true_and]
          repeat' (first | exact True.intro | (refine ⟨fun hb => ?_, fun hb => ?_⟩ <;> first | (exfalso; omega; done) | exact absurd True.intro hb | ((conv => whnf); try simp only [gO, gWe, ne_eq, Nat.reduceEqDiff, not_false_eq_true, true_or, or_true, true_and])) | (refine ⟨by omega, ?_⟩; (conv => whnf); try simp only [gO, gWe, ne_eq, Nat.reduceEqDiff, not_false_eq_true, true_or, or_true, true_and]) | (refine ⟨fun hb => ?_, ?_⟩ <;> first | (exfalso; omega; done) | exact absurd True.intro hb | ((conv => whnf); try simp only [gO, gWe, ne_eq, Nat.reduceEqDiff, not_false_eq_true, true_or, or_true, true_and])) | fail)
          exact ih ν _ hν h1
    · have s1 : hSt μ ν := hν.st (by decide)
      have e1 : (ν 23) = (μ 23) := s1 23 (by decide) (by decide)
      have e2 : (ν 24) = (μ 24) := hν 24 (by decide)
      have f1 : (ν 23) y = s := by rw [e1, hs]
      have f2 : (ν 23) (y + 1) = e := by rw [e1, he]
      have f4 : (ν 9 1) = (μ 9 1) := by rw [s1 9 (by decide) (by decide)]
      refine gB_gG [17] 300 ?_
      (conv => whnf); try simp only [gO, gWe, ne_eq, Nat.reduceEqDiff, not_false_eq_true, true_or, or_true, true_and]
      repeat' (first | exact True.intro | (refine ⟨fun hb => ?_, fun hb => ?_⟩ <;> first | (exfalso; omega; done) | exact absurd True.intro hb | ((conv => whnf); try simp only [gO, gWe, ne_eq, Nat.reduceEqDiff, not_false_eq_true, true_or, or_true, true_and])) | (refine ⟨by omega, ?_⟩; (conv => whnf); try simp only [gO, gWe, ne_eq, Nat.reduceEqDiff, not_false_eq_true, true_or, or_true, true_and]) | (refine ⟨fun hb => ?_, ?_⟩ <;> first | (exfalso; omega; done) | exact absurd True.intro hb | ((conv => whnf); try simp only [gO, gWe, ne_eq, Nat.reduceEqDiff, not_false_eq_true, true_or, or_true, true_and])) | fail)
      refine t_43 (by omega) (iG_c s1 hG) (iL_c s1 hL) (iN_c s1 hN) y0 (by omega) ?_
      (conv => whnf); try simp only [gO, gWe, ne_eq, Nat.reduceEqDiff, not_false_eq_true, true_or, or_true, true_and]
      repeat' (first | exact True.intro | (refine ⟨fun hb => ?_, fun hb => ?_⟩ <;> first | (exfalso; omega; done) | exact absurd True.intro hb | ((conv => whnf); try simp only [gO, gWe, ne_eq, Nat.reduceEqDiff, not_false_eq_true, true_or, or_true, true_and])) | (refine ⟨by omega, ?_⟩; (conv => whnf); try simp only [gO, gWe, ne_eq, Nat.reduceEqDiff, not_false_eq_true, true_or, or_true, true_and]) | (refine ⟨fun hb => ?_, ?_⟩ <;> first | (exfalso; omega; done) | exact absurd True.intro hb | ((conv => whnf); try simp only [gO, gWe, ne_eq, Nat.reduceEqDiff, not_false_eq_true, true_or, or_true, true_and])) | fail)
      rw [f1, f2]
      have f : gFr [24, 28] μ (gCp ν 28 s 24 s (e - s)) := fun c hc => by
        rw [← hν c (fun h => hc (by simp at h; simp [h]))]
        show (if c = 24 then _ else _) = _
        rw [if_neg (fun h => hc (by simp [h]))]
      have q : gCp ν 28 s 24 s (e - s) 24 = cloS μ (μ 24) y := by
        funext j
        show (if s ≤ j ∧ j < s + (e - s) then (ν 28) (s + (j - s)) else (ν 24) j) = _
        unfold cloS
        rw [hs, he, e2]
        by_cases c : s ≤ j ∧ j < e
        · rw [if_pos (by omega), if_pos c]
          exact h1 (j - s) (by omega) (by omega)
        · rw [if_neg (by omega), if_neg c]
      generalize gCp ν 28 s 24 s (e - s) = ρ at f q ⊢
      have s2 : hSt μ ρ := f.st (by decide)
      have g1 : (ρ 23) = (μ 23) := s2 23 (by decide) (by decide)
      refine t_48 (by omega) (iG_c s2 hG) (iL_c s2 hL) (iN_c s2 hN) y0 (by rw [s2 9 (by decide) (by decide)]; exact y1) ?_ ?_ ?_
      · rw [g1, hs, he, q]
        intro j j0 j1
        obtain ⟨a, a0, a1, ha⟩ := cv.2.1 j j0 j1
        rw [ha]
        have := hO.1 y y0 y1 a (by omega) (by omega)
        omega
      · rw [g1, hs, he, q]
        exact cv.2.2.2.1
      · rw [g1, hs, he, q, f 25 (by decide)]
        intro τ hτ t1
        (conv => whnf); try simp only [gO, gWe, ne_eq, Nat.reduceEqDiff, not_false_eq_true, true_or, or_true, true_and]
        have q2 : (τ 24) = cloS μ (μ 24) y := by rw [hτ 24 (by decide), q]
        refine h τ ((f.mo (by decide)).tr (hτ.mo (by decide))) ?_
        unfold clo2
        rw [q2, t1, hs, he]
  have z := key s (by omega) (by omega) μ (gN 2) gFr.rf
  rw [show (s - s).toNat = 0 by omega] at z
  have z1 := z (fun r r0 r1 => by have : r < 0 := r1; omega)
  rw [show s + (hClo μ (μ 24) s e 0).1.1 = s by show s + 0 = s; omega] at z1
  show gG g_T g_F (gCall g_T g_F sN sX d) sN sX (g_T 51) Q 17 [gR 19, gI y, gI (μ 23 y), gI 0, gI (μ 23 y), gN 2] [] g_SH μ 0 0
  rw [hs]
  exact z1
