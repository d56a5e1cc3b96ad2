variable {sN : Int} {sX : Int → Int}
/-! the class finds the directions -/
theorem t_226_13 {D : Nat} (hD : 1 ≤ D) {μ : MU} {Q : GQ} {v : Int} (h : ∀ ν : MU, gFr [13] μ ν → (∀ j : Int, 0 ≤ j → j < 12 → ν 13 j = v) → Q none g_SH ν) : gCall g_T g_F sN sX D 226 [gR 13, gI v] g_SH μ Q := by
  obtain ⟨d, rfl⟩ := gD (show 1 ≤ D by omega)
  refine gC 300 [5] rfl ?_
  (conv => whnf); try simp only [gO, gWe, ne_eq, Nat.reduceEqDiff, not_false_eq_true, true_or, or_true, true_and]
  have key : ∀ i : Int, 0 ≤ i → i ≤ 12 → ∀ ν : MU, gFr [13] μ ν → (∀ j : Int, 0 ≤ j → j < i → ν 13 j = v) → gG g_T g_F (gCall g_T g_F sN sX d) sN sX (g_T 226) Q 5 [gR 13, gI v, gI i, gI 12] [] g_SH ν 0 0 := by
    refine g_up (fun i i0 i1 ih ν hν hk => ?_) (fun ν hν hk => ?_)
    · refine gB_gG [5] 300 ?_
      (conv => whnf); try simp only [gO, gWe, ne_eq, Nat.reduceEqDiff, not_false_eq_true, true_or, or_true, true_and]
      repeat' (first | exact True.intro | (refine ⟨fun hb => ?_, fun hb => ?_⟩ <;> first | (exfalso; omega; done) | exact absurd True.intro hb | ((conv => whnf); try simp only [gO, gWe, ne_eq, Nat.reduceEqDiff, not_false_eq_true, true_or, or_true, true_and])) | (refine ⟨by omega, ?_⟩; (conv => whnf); try simp only [gO, gWe, ne_eq, Nat.reduceEqDiff, not_false_eq_true, true_or, or_true, true_and]) | (refine ⟨fun hb => ?_, ?_⟩ <;> first | (exfalso; omega; done) | exact absurd True.intro hb | ((conv => whnf); try simp only [gO, gWe, ne_eq, Nat.reduceEqDiff, not_false_eq_true, true_or, or_true, true_and])) | fail)
      refine ih _ (hν.W (by decide)) (fun j j0 j1 => ?_)
      by_cases c : j = i
      · rw [c]; exact gWe _ _ _ _
      · rw [gWn _ _ _ c]; exact hk j j0 (by omega)
    · refine gB_gG [] 300 ?_
      (conv => whnf); try simp only [gO, gWe, ne_eq, Nat.reduceEqDiff, not_false_eq_true, true_or, or_true, true_and]
      repeat' (first | exact True.intro | (refine ⟨fun hb => ?_, fun hb => ?_⟩ <;> first | (exfalso; omega; done) | exact absurd True.intro hb | ((conv => whnf); try simp only [gO, gWe, ne_eq, Nat.reduceEqDiff, not_false_eq_true, true_or, or_true, true_and])) | (refine ⟨by omega, ?_⟩; (conv => whnf); try simp only [gO, gWe, ne_eq, Nat.reduceEqDiff, not_false_eq_true, true_or, or_true, true_and]) | (refine ⟨fun hb => ?_, ?_⟩ <;> first | (exfalso; omega; done) | exact absurd True.intro hb | ((conv => whnf); try simp only [gO, gWe, ne_eq, Nat.reduceEqDiff, not_false_eq_true, true_or, or_true, true_and])) | fail)
      exact h ν hν hk
  exact key 0 (by omega) (by omega) μ gFr.rf (fun j _ _ => by omega)
theorem t_226_16 {D : Nat} (hD : 1 ≤ D) {μ : MU} {Q : GQ} {v : Int} (h : ∀ ν : MU, gFr [16] μ ν → (∀ j : Int, 0 ≤ j → j < 12 → ν 16 j = v) → Q none g_SH ν) : gCall g_T g_F sN sX D 226 [gR 16, gI v] g_SH μ Q := by
  obtain ⟨d, rfl⟩ := gD (show 1 ≤ D by omega)
  refine gC 300 [5] rfl ?_
  (conv => whnf); try simp only [gO, gWe, ne_eq, Nat.reduceEqDiff, not_false_eq_true, true_or, or_true, true_and]
  have key : ∀ i : Int, 0 ≤ i → i ≤ 12 → ∀ ν : MU, gFr [16] μ ν → (∀ j : Int, 0 ≤ j → j < i → ν 16 j = v) → gG g_T g_F (gCall g_T g_F sN sX d) sN sX (g_T 226) Q 5 [gR 16, gI v, gI i, gI 12] [] g_SH ν 0 0 := by
    refine g_up (fun i i0 i1 ih ν hν hk => ?_) (fun ν hν hk => ?_)
    · refine gB_gG [5] 300 ?_
      (conv => whnf); try simp only [gO, gWe, ne_eq, Nat.reduceEqDiff, not_false_eq_true, true_or, or_true, true_and]
      repeat' (first | exact True.intro | (refine ⟨fun hb => ?_, fun hb => ?_⟩ <;> first | (exfalso; omega; done) | exact absurd True.intro hb | ((conv => whnf); try simp only [gO, gWe, ne_eq, Nat.reduceEqDiff, not_false_eq_true, true_or, or_true, true_and])) | (refine ⟨by omega, ?_⟩; (conv => whnf); try simp only [gO, gWe, ne_eq, Nat.reduceEqDiff, not_false_eq_true, true_or, or_true, true_and]) | (refine ⟨fun hb => ?_, ?_⟩ <;> first | (exfalso; omega; done) | exact absurd True.intro hb | ((conv => whnf); try simp only [gO, gWe, ne_eq, Nat.reduceEqDiff, not_false_eq_true, true_or, or_true, true_and])) | fail)
      refine ih _ (hν.W (by decide)) (fun j j0 j1 => ?_)
      by_cases c : j = i
      · rw [c]; exact gWe _ _ _ _
      · rw [gWn _ _ _ c]; exact hk j j0 (by omega)
    · refine gB_gG [] 300 ?_
      (conv => whnf); try simp only [gO, gWe, ne_eq, Nat.reduceEqDiff, not_false_eq_true, true_or, or_true, true_and]
      repeat' (first | exact True.intro | (refine ⟨fun hb => ?_, fun hb => ?_⟩ <;> first | (exfalso; omega; done) | exact absurd True.intro hb | ((conv => whnf); try simp only [gO, gWe, ne_eq, Nat.reduceEqDiff, not_false_eq_true, true_or, or_true, true_and])) | (refine ⟨by omega, ?_⟩; (conv => whnf); try simp only [gO, gWe, ne_eq, Nat.reduceEqDiff, not_false_eq_true, true_or, or_true, true_and]) | (refine ⟨fun hb => ?_, ?_⟩ <;> first | (exfalso; omega; done) | exact absurd True.intro hb | ((conv => whnf); try simp only [gO, gWe, ne_eq, Nat.reduceEqDiff, not_false_eq_true, true_or, or_true, true_and])) | fail)
      exact h ν hν hk
  exact key 0 (by omega) (by omega) μ gFr.rf (fun j _ _ => by omega)
theorem t_226_18 {D : Nat} (hD : 1 ≤ D) {μ : MU} {Q : GQ} {v : Int} (h : ∀ ν : MU, gFr [18] μ ν → (∀ j : Int, 0 ≤ j → j < 12 → ν 18 j = v) → Q none g_SH ν) : gCall g_T g_F sN sX D 226 [gR 18, gI v] g_SH μ Q := by
  obtain ⟨d, rfl⟩ := gD (show 1 ≤ D by omega)
  refine gC 300 [5] rfl ?_
  (conv => whnf); try simp only [gO, gWe, ne_eq, Nat.reduceEqDiff, not_false_eq_true, true_or, or_true, true_and]
  have key : ∀ i : Int, 0 ≤ i → i ≤ 12 → ∀ ν : MU, gFr [18] μ ν → (∀ j : Int, 0 ≤ j → j < i → ν 18 j = v) → gG g_T g_F (gCall g_T g_F sN sX d) sN sX (g_T 226) Q 5 [gR 18, gI v, gI i, gI 12] [] g_SH ν 0 0 := by
    refine g_up (fun i i0 i1 ih ν hν hk => ?_) (fun ν hν hk => ?_)
    · refine gB_gG [5] 300 ?_
      (conv => whnf); try simp only [gO, gWe, ne_eq, Nat.reduceEqDiff, not_false_eq_true, true_or, or_true, true_and]
      repeat' (first | exact True.intro | (refine ⟨fun hb => ?_, fun hb => ?_⟩ <;> first | (exfalso; omega; done) | exact absurd True.intro hb | ((conv => whnf); try simp only [gO, gWe, ne_eq, Nat.reduceEqDiff, not_false_eq_true, true_or, or_true, true_and])) | (refine ⟨by omega, ?_⟩; (conv => whnf); try simp only [gO, gWe, ne_eq, Nat.reduceEqDiff, not_false_eq_true, true_or, or_true, true_and]) | (refine ⟨fun hb => ?_, ?_⟩ <;> first | (exfalso; omega; done) | exact absurd True.intro hb | ((conv => whnf); try simp only [gO, gWe, ne_eq, Nat.reduceEqDiff, not_false_eq_true, true_or, or_true, true_and])) | fail)
      refine ih _ (hν.W (by decide)) (fun j j0 j1 => ?_)
      by_cases c : j = i
      · rw [c]; exact gWe _ _ _ _
      · rw [gWn _ _ _ c]; exact hk j j0 (by omega)
    · refine gB_gG [] 300 ?_
      (conv => whnf); try simp only [gO, gWe, ne_eq, Nat.reduceEqDiff, not_false_eq_true, true_or, or_true, true_and]
      repeat' (first | exact True.intro | (refine ⟨fun hb => ?_, fun hb => ?_⟩ <;> first | (exfalso; omega; done) | exact absurd True.intro hb | ((conv => whnf); try simp only [gO, gWe, ne_eq, Nat.reduceEqDiff, not_false_eq_true, true_or, or_true, true_and])) | (refine ⟨by omega, ?_⟩; (conv => whnf); try simp only [gO, gWe, ne_eq, Nat.reduceEqDiff, not_false_eq_true, true_or, or_true, true_and]) | (refine ⟨fun hb => ?_, ?_⟩ <;> first | (exfalso; omega; done) | exact absurd True.intro hb | ((conv => whnf); try simp only [gO, gWe, ne_eq, Nat.reduceEqDiff, not_false_eq_true, true_or, or_true, true_and])) | fail)
      exact h ν hν hk
  exact key 0 (by omega) (by omega) μ gFr.rf (fun j _ _ => by omega)
theorem t_226_17 {D : Nat} (hD : 1 ≤ D) {μ : MU} {Q : GQ} {v : Int} (h : ∀ ν : MU, gFr [17] μ ν → (∀ j : Int, 0 ≤ j → j < 20 → ν 17 j = v) → Q none g_SH ν) : gCall g_T g_F sN sX D 226 [gR 17, gI v] g_SH μ Q := by
  obtain ⟨d, rfl⟩ := gD (show 1 ≤ D by omega)
  refine gC 300 [5] rfl ?_
  (conv => whnf); try simp only [gO, gWe, ne_eq, Nat.reduceEqDiff, not_false_eq_true, true_or, or_true, true_and]
  have key : ∀ i : Int, 0 ≤ i → i ≤ 20 → ∀ ν : MU, gFr [17] μ ν → (∀ j : Int, 0 ≤ j → j < i → ν 17 j = v) → gG g_T g_F (gCall g_T g_F sN sX d) sN sX (g_T 226) Q 5 [gR 17, gI v, gI i, gI 20] [] g_SH ν 0 0 := by
    refine g_up (fun i i0 i1 ih ν hν hk => ?_) (fun ν hν hk => ?_)
    · refine gB_gG [5] 300 ?_
      (conv => whnf); try simp only [gO, gWe, ne_eq, Nat.reduceEqDiff, not_false_eq_true, true_or, or_true, true_and]
      repeat' (first | exact True.intro | (refine ⟨fun hb => ?_, fun hb => ?_⟩ <;> first | (exfalso; omega; done) | exact absurd True.intro hb | ((conv => whnf); try simp only [gO, gWe, ne_eq, Nat.reduceEqDiff, not_false_eq_true, true_or, or_true, true_and])) | (refine ⟨by omega, ?_⟩; (conv => whnf); try simp only [gO, gWe, ne_eq, Nat.reduceEqDiff, not_false_eq_true, true_or, or_true, true_and]) | (refine ⟨fun hb => ?_, ?_⟩ <;> first | (exfalso; omega; done) | exact absurd True.intro hb | ((conv => whnf); try simp only [gO, gWe, ne_eq, Nat.reduceEqDiff, not_false_eq_true, true_or, or_true, true_and])) | fail)
      refine ih _ (hν.W (by decide)) (fun j j0 j1 => ?_)
      by_cases c : j = i
      · rw [c]; exact gWe _ _ _ _
      · rw [gWn _ _ _ c]; exact hk j j0 (by omega)
    · refine gB_gG [] 300 ?_
      (conv => whnf); try simp only [gO, gWe, ne_eq, Nat.reduceEqDiff, not_false_eq_true, true_or, or_true, true_and]
      repeat' (first | exact True.intro | (refine ⟨fun hb => ?_, fun hb => ?_⟩ <;> first | (exfalso; omega; done) | exact absurd True.intro hb | ((conv => whnf); try simp only [gO, gWe, ne_eq, Nat.reduceEqDiff, not_false_eq_true, true_or, or_true, true_and])) | (refine ⟨by omega, ?_⟩; (conv => whnf); try simp only [gO, gWe, ne_eq, Nat.reduceEqDiff, not_false_eq_true, true_or, or_true, true_and]) | (refine ⟨fun hb => ?_, ?_⟩ <;> first | (exfalso; omega; done) | exact absurd True.intro hb | ((conv => whnf); try simp only [gO, gWe, ne_eq, Nat.reduceEqDiff, not_false_eq_true, true_or, or_true, true_and])) | fail)
      exact h ν hν hk
  exact key 0 (by omega) (by omega) μ gFr.rf (fun j _ _ => by omega)
theorem iG_f {μ ν : MU} (h1 : ν 1 = μ 1) (h2 : ν 2 = μ 2) (h3 : ν 3 = μ 3) (h4 : ν 4 = μ 4) (h5 : ν 5 = μ 5) (h6 : ν 6 = μ 6) (h7 : ν 7 = μ 7) (h8 : ν 8 = μ 8) (x : iG μ) : iG ν := by
  unfold iG at *
  rw [h1, h2, h3, h4, h5, h6, h7, h8]
  exact x
def dEq (n m : Int) (μ : MU) (s : GD) : Prop := (∀ i : Int, 0 ≤ i → i < n → (μ 16) i = s.1 i) ∧ ∀ e : Int, 0 ≤ e → e < m → (μ 10) e = s.2 e
theorem iG_dE {μ : MU} (hG : iG μ) : dE (μ 1 0) (μ 1 1) (μ 4) (μ 5) := fun e e0 e1 => by
  have a := hG.2.2 e e0 e1
  exact ⟨a.1, a.2.1, a.2.2.1⟩
theorem t_26 : ∀ (f : Nat) {D : Nat} (hD : f + 1 ≤ D) {μ : MU} {Q : GQ} {a dp : Int} {s : GD} (hG : iG μ) (hf : dp + f = 12) (d0 : 0 ≤ dp) (a0 : 0 ≤ a) (a1 : a < (μ 1 0)) (hs : dEq (μ 1 0) (μ 1 1) μ s) (h : ∀ ν : MU, gFr [16, 10] μ ν → dEq (μ 1 0) (μ 1 1) ν (gDfs (μ 1 1).toNat (μ 4) (μ 5) f a s) → Q none g_SH ν), gCall g_T g_F sN sX D 26 [gR 9, gI a, gI dp] g_SH μ Q := by
  intro f
  induction f with
  | zero =>
    intro D hD μ Q a dp s hG hf d0 a0 a1 hs h
    obtain ⟨d, rfl⟩ := gD (show 1 ≤ D by omega)
    refine gC 300 [] rfl ?_
    (conv => whnf); try simp only [gO, gWe, ne_eq, Nat.reduceEqDiff, not_false_eq_true, true_or, or_true, true_and]
    repeat' (first | exact True.intro | (refine ⟨fun hb => ?_, fun hb => ?_⟩ <;> first | (exfalso; omega; done) | exact absurd True.intro hb | ((conv => whnf); try simp only [gO, gWe, ne_eq, Nat.reduceEqDiff, not_false_eq_true, true_or, or_true, true_and])) | (refine ⟨by omega, ?_⟩; (conv => whnf); try simp only [gO, gWe, ne_eq, Nat.reduceEqDiff, not_false_eq_true, true_or, or_true, true_and]) | (refine ⟨fun hb => ?_, ?_⟩ <;> first | (exfalso; omega; done) | exact absurd True.intro hb | ((conv => whnf); try simp only [gO, gWe, ne_eq, Nat.reduceEqDiff, not_false_eq_true, true_or, or_true, true_and])) | fail)
    exact h μ gFr.rf hs
  | succ f ihf =>
    intro D hD μ Q a dp s hG hf d0 a0 a1 hs h
    have G := hG.1
    obtain ⟨d, rfl⟩ := gD (show 1 ≤ D by omega)
    refine gC 300 [16] rfl ?_
    (conv => whnf); try simp only [gO, gWe, ne_eq, Nat.reduceEqDiff, not_false_eq_true, true_or, or_true, true_and]
    repeat' (first | exact True.intro | (refine ⟨fun hb => ?_, fun hb => ?_⟩ <;> first | (exfalso; omega; done) | exact absurd True.intro hb | ((conv => whnf); try simp only [gO, gWe, ne_eq, Nat.reduceEqDiff, not_false_eq_true, true_or, or_true, true_and])) | (refine ⟨by omega, ?_⟩; (conv => whnf); try simp only [gO, gWe, ne_eq, Nat.reduceEqDiff, not_false_eq_true, true_or, or_true, true_and]) | (refine ⟨fun hb => ?_, ?_⟩ <;> first | (exfalso; omega; done) | exact absurd True.intro hb | ((conv => whnf); try simp only [gO, gWe, ne_eq, Nat.reduceEqDiff, not_false_eq_true, true_or, or_true, true_and])) | fail)
    have key : ∀ e : Int, 0 ≤ e → e ≤ (μ 1 1) → ∀ (ν : MU) (x : GV), gFr [16, 10] μ ν → dEq (μ 1 0) (μ 1 1) ν (gFold (dStep (μ 1 1).toNat (μ 4) (μ 5) f a) e.toNat (gUp s.1 a 1, s.2)) → gG g_T g_F (gCall g_T g_F sN sX d) sN sX (g_T 26) Q 16 [gR 9, gI a, gI dp, gI e, x] [] g_SH ν 0 0 := by
      refine g_up (fun e e0 e1 ih ν x hν hk => ?_) (fun ν x hν hk => ?_)
      · rw [show (e + 1).toNat = e.toNat + 1 by omega, show gFold (dStep (μ 1 1).toNat (μ 4) (μ 5) f a) (e.toNat + 1) (gUp s.1 a 1, s.2) = dStep (μ 1 1).toNat (μ 4) (μ 5) f a (e.toNat : Int) (gFold (dStep (μ 1 1).toNat (μ 4) (μ 5) f a) e.toNat (gUp s.1 a 1, s.2)) from rfl, show ((e.toNat : Nat) : Int) = e by omega] at ih
        generalize gFold (dStep (μ 1 1).toNat (μ 4) (μ 5) f a) e.toNat (gUp s.1 a 1, s.2) = q at *
        have g := hG.2.2 e e0 e1
        have f1 : (ν 1 0) = (μ 1 0) := by rw [hν 1 (by decide)]
        have f2 : (ν 1 1) = (μ 1 1) := by rw [hν 1 (by decide)]
        have f4 : (ν 4) e = (μ 4) e := by rw [hν 4 (by decide)]
        have f5 : (ν 5) e = (μ 5) e := by rw [hν 5 (by decide)]
        have hv : (ν 16) ((ν 5) e) = q.1 ((μ 5) e) := by rw [f5]; exact hk.1 _ g.2.1.1 g.2.1.2
        have hGν : iG ν := iG_f (hν 1 (by decide)) (hν 2 (by decide)) (hν 3 (by decide)) (hν 4 (by decide)) (hν 5 (by decide)) (hν 6 (by decide)) (hν 7 (by decide)) (hν 8 (by decide)) hG
        unfold dStep at ih
        by_cases h1 : (μ 4) e = a
        · rw [if_pos h1] at ih
          by_cases h2 : q.1 ((μ 5) e) = 0
          · rw [if_pos h2] at ih
            refine gB_gG [16] 300 ?_
            (conv => whnf); try simp only [gO, gWe, ne_eq, Nat.reduceEqDiff, not_false_eq_true, true_or, or_true, true_and]
            repeat' (first | exact True.intro | (refine ⟨fun hb => ?_, fun hb => ?_⟩ <;> first | (exfalso; omega; done) | exact absurd True.intro hb | ((conv => whnf); try simp only [gO, gWe, ne_eq, Nat.reduceEqDiff, not_false_eq_true, true_or, or_true, true_and])) | (refine ⟨by omega, ?_⟩; (conv => whnf); try simp only [gO, gWe, ne_eq, Nat.reduceEqDiff, not_false_eq_true, true_or, or_true, true_and]) | (refine ⟨fun hb => ?_, ?_⟩ <;> first | (exfalso; omega; done) | exact absurd True.intro hb | ((conv => whnf); try simp only [gO, gWe, ne_eq, Nat.reduceEqDiff, not_false_eq_true, true_or, or_true, true_and])) | fail)
            rw [f5]
            refine ihf (by omega) (s := q) hGν (by omega) (by omega) g.2.1.1 (by omega) (by rw [f1, f2]; exact hk) (fun τ hτ ht => ?_)
            rw [f1, f2, hν 4 (by decide), hν 5 (by decide)] at ht
            (conv => whnf); try simp only [gO, gWe, ne_eq, Nat.reduceEqDiff, not_false_eq_true, true_or, or_true, true_and]
            repeat' (first | exact True.intro | (refine ⟨fun hb => ?_, fun hb => ?_⟩ <;> first | (exfalso; omega; done) | exact absurd True.intro hb | ((conv => whnf); try simp only [gO, gWe, ne_eq, Nat.reduceEqDiff, not_false_eq_true, true_or, or_true, true_and])) | (refine ⟨by omega, ?_⟩; (conv => whnf); try simp only [gO, gWe, ne_eq, Nat.reduceEqDiff, not_false_eq_true, true_or, or_true, true_and]) | (refine ⟨fun hb => ?_, ?_⟩ <;> first | (exfalso; omega; done) | exact absurd True.intro hb | ((conv => whnf); try simp only [gO, gWe, ne_eq, Nat.reduceEqDiff, not_false_eq_true, true_or, or_true, true_and])) | fail)
            exact ih τ _ (hν.tr hτ) ht
          · rw [if_neg h2] at ih
            by_cases h3 : q.1 ((μ 5) e) = 1
            · rw [if_pos h3] at ih
              refine gB_gG [16] 300 ?_
              (conv => whnf); try simp only [gO, gWe, ne_eq, Nat.reduceEqDiff, not_false_eq_true, true_or, or_true, true_and]
              repeat' (first | exact True.intro | (refine ⟨fun hb => ?_, fun hb => ?_⟩ <;> first | (exfalso; omega; done) | exact absurd True.intro hb | ((conv => whnf); try simp only [gO, gWe, ne_eq, Nat.reduceEqDiff, not_false_eq_true, true_or, or_true, true_and])) | (refine ⟨by omega, ?_⟩; (conv => whnf); try simp only [gO, gWe, ne_eq, Nat.reduceEqDiff, not_false_eq_true, true_or, or_true, true_and]) | (refine ⟨fun hb => ?_, ?_⟩ <;> first | (exfalso; omega; done) | exact absurd True.intro hb | ((conv => whnf); try simp only [gO, gWe, ne_eq, Nat.reduceEqDiff, not_false_eq_true, true_or, or_true, true_and])) | fail)
              · refine ih _ _ (hν.W (by decide)) ⟨hk.1, fun i i0 i1 => ?_⟩
                show gW ν 10 e 1 10 i = gUp q.2 e 1 i
                by_cases c : i = e
                · rw [c, gUp_e]; exact gWe _ _ _ _
                · rw [gUp_n c, gWn _ _ _ c]; exact hk.2 i i0 i1
            · rw [if_neg h3] at ih
              refine gB_gG [16] 300 ?_
              (conv => whnf); try simp only [gO, gWe, ne_eq, Nat.reduceEqDiff, not_false_eq_true, true_or, or_true, true_and]
              repeat' (first | exact True.intro | (refine ⟨fun hb => ?_, fun hb => ?_⟩ <;> first | (exfalso; omega; done) | exact absurd True.intro hb | ((conv => whnf); try simp only [gO, gWe, ne_eq, Nat.reduceEqDiff, not_false_eq_true, true_or, or_true, true_and])) | (refine ⟨by omega, ?_⟩; (conv => whnf); try simp only [gO, gWe, ne_eq, Nat.reduceEqDiff, not_false_eq_true, true_or, or_true, true_and]) | (refine ⟨fun hb => ?_, ?_⟩ <;> first | (exfalso; omega; done) | exact absurd True.intro hb | ((conv => whnf); try simp only [gO, gWe, ne_eq, Nat.reduceEqDiff, not_false_eq_true, true_or, or_true, true_and])) | fail)
              exact ih _ _ hν hk
        · rw [if_neg h1] at ih
          refine gB_gG [16] 300 ?_
          (conv => whnf); try simp only [gO, gWe, ne_eq, Nat.reduceEqDiff, not_false_eq_true, true_or, or_true, true_and]
          repeat' (first | exact True.intro | (refine ⟨fun hb => ?_, fun hb => ?_⟩ <;> first | (exfalso; omega; done) | exact absurd True.intro hb | ((conv => whnf); try simp only [gO, gWe, ne_eq, Nat.reduceEqDiff, not_false_eq_true, true_or, or_true, true_and])) | (refine ⟨by omega, ?_⟩; (conv => whnf); try simp only [gO, gWe, ne_eq, Nat.reduceEqDiff, not_false_eq_true, true_or, or_true, true_and]) | (refine ⟨fun hb => ?_, ?_⟩ <;> first | (exfalso; omega; done) | exact absurd True.intro hb | ((conv => whnf); try simp only [gO, gWe, ne_eq, Nat.reduceEqDiff, not_false_eq_true, true_or, or_true, true_and])) | fail)
          exact ih _ _ hν hk
      · have f1 : (ν 1 0) = (μ 1 0) := by rw [hν 1 (by decide)]
        have f2 : (ν 1 1) = (μ 1 1) := by rw [hν 1 (by decide)]
        refine gB_gG [16] 300 ?_
        (conv => whnf); try simp only [gO, gWe, ne_eq, Nat.reduceEqDiff, not_false_eq_true, true_or, or_true, true_and]
        repeat' (first | exact True.intro | (refine ⟨fun hb => ?_, fun hb => ?_⟩ <;> first | (exfalso; omega; done) | exact absurd True.intro hb | ((conv => whnf); try simp only [gO, gWe, ne_eq, Nat.reduceEqDiff, not_false_eq_true, true_or, or_true, true_and])) | (refine ⟨by omega, ?_⟩; (conv => whnf); try simp only [gO, gWe, ne_eq, Nat.reduceEqDiff, not_false_eq_true, true_or, or_true, true_and]) | (refine ⟨fun hb => ?_, ?_⟩ <;> first | (exfalso; omega; done) | exact absurd True.intro hb | ((conv => whnf); try simp only [gO, gWe, ne_eq, Nat.reduceEqDiff, not_false_eq_true, true_or, or_true, true_and])) | fail)
        refine h _ (hν.W (by decide)) ?_
        rw [gDfs_s]
        refine ⟨fun i i0 i1 => ?_, hk.2⟩
        show gW ν 16 a 2 16 i = gUp _ a 2 i
        by_cases c : i = a
        · rw [c, gUp_e]; exact gWe _ _ _ _
        · rw [gUp_n c, gWn _ _ _ c]; exact hk.1 i i0 i1
    refine key 0 (by omega) (by omega) _ _ (gFr.rf.W (by decide)) ⟨fun i i0 i1 => ?_, hs.2⟩
    show gW μ 16 a 1 16 i = gUp s.1 a 1 i
    by_cases c : i = a
    · rw [c, gUp_e]; exact gWe _ _ _ _
    · rw [gUp_n c, gWn _ _ _ c]; exact hs.1 i i0 i1
theorem t_25 {D : Nat} (hD : 20 ≤ D) {μ : MU} {Q : GQ} (hG : iG μ) (h : ∀ ν : MU, gFr [16, 10, 11, 12] μ ν → iU ν → Q none g_SH ν) : gCall g_T g_F sN sX D 25 [gR 9] g_SH μ Q := by
  have G := hG.1
  obtain ⟨d, rfl⟩ := gD (show 1 ≤ D by omega)
  refine gC 300 [10] rfl ?_
  (conv => whnf); try simp only [gO, gWe, ne_eq, Nat.reduceEqDiff, not_false_eq_true, true_or, or_true, true_and]
  refine t_226_16 (by omega) (fun ν₁ hν₁ v0 => ?_)
  (conv => whnf); try simp only [gO, gWe, ne_eq, Nat.reduceEqDiff, not_false_eq_true, true_or, or_true, true_and]
  have f1 : ∀ ρ : MU, gFr [16, 10, 11, 12] μ ρ → (ρ 1 0) = (μ 1 0) ∧ (ρ 1 1) = (μ 1 1) ∧ iG ρ := fun ρ hρ => ⟨by rw [hρ 1 (by decide)], by rw [hρ 1 (by decide)], iG_f (hρ 1 (by decide)) (hρ 2 (by decide)) (hρ 3 (by decide)) (hρ 4 (by decide)) (hρ 5 (by decide)) (hρ 6 (by decide)) (hρ 7 (by decide)) (hρ 8 (by decide)) hG⟩
  have loop3 : ∀ e : Int, 0 ≤ e → e ≤ (μ 1 1) → ∀ (ν : MU), gFr [16, 10, 11, 12] μ ν → (∀ i : Int, 0 ≤ i → i < (μ 1 1) → (ν 10) i = (gDirs (μ 1 0).toNat (μ 1 1).toNat (μ 4) (μ 5)).2 i) → (∀ i : Int, 0 ≤ i → i < e → ((ν 10) i = 1 ∧ (ν 11) i = (μ 5) i ∧ (ν 12) i = (μ 4) i) ∨ ((ν 10) i = 0 ∧ (ν 11) i = (μ 4) i ∧ (ν 12) i = (μ 5) i)) → gG g_T g_F (gCall g_T g_F sN sX d) sN sX (g_T 25) Q 70 [gR 9, gI e] [] g_SH ν 0 0 := by
    refine g_up (fun e e0 e1 ih ν hν ht hk => ?_) (fun ν hν ht hk => ?_)
    · obtain ⟨f2, f3, -⟩ := f1 ν hν
      have f4 : (ν 4) e = (μ 4) e := by rw [hν 4 (by decide)]
      have f5 : (ν 5) e = (μ 5) e := by rw [hν 5 (by decide)]
      obtain ⟨q, -, q2⟩ := dirs_ok (by omega) (by omega) (by omega) (iG_dE hG)
      have q3 := q2 e e0 e1
      have q4 := ht e e0 e1
      have t01 : (ν 10) e = 0 ∨ (ν 10) e = 1 := by rcases q3 with z | z <;> omega
      clear q3 q4 q2
      have nx : ∀ u w : Int, (((ν 10) e = 1 ∧ u = (μ 5) e ∧ w = (μ 4) e) ∨ ((ν 10) e = 0 ∧ u = (μ 4) e ∧ w = (μ 5) e)) → gG g_T g_F (gCall g_T g_F sN sX d) sN sX (g_T 25) Q 70 [gR 9, gI (e + 1)] [] g_SH (gW (gW ν 11 e u) 12 e w) 0 0 := fun u w huw => ih _ ((hν.W (by decide)).W (by decide)) ht (fun i i0 i1 => by
        show (ν 10 i = 1 ∧ gW ν 11 e u 11 i = _ ∧ gW (gW ν 11 e u) 12 e w 12 i = _) ∨ (ν 10 i = 0 ∧ gW ν 11 e u 11 i = _ ∧ gW (gW ν 11 e u) 12 e w 12 i = _)
        by_cases c : i = e
        · rw [c, gWe, gWe]; exact huw
        · rw [gWn _ _ _ c, gWn _ _ _ c]; exact hk i i0 (by omega))
      rcases t01 with z | z
      · refine gB_gG [70] 300 ?_
        (conv => whnf); try simp only [gO, gWe, ne_eq, Nat.reduceEqDiff, not_false_eq_true, true_or, or_true, true_and]
        repeat' (first | exact True.intro | (refine ⟨fun hb => ?_, fun hb => ?_⟩ <;> first | (exfalso; omega; done) | exact absurd True.intro hb | ((conv => whnf); try simp only [gO, gWe, ne_eq, Nat.reduceEqDiff, not_false_eq_true, true_or, or_true, true_and])) | (refine ⟨by omega, ?_⟩; (conv => whnf); try simp only [gO, gWe, ne_eq, Nat.reduceEqDiff, not_false_eq_true, true_or, or_true, true_and]) | (refine ⟨fun hb => ?_, ?_⟩ <;> first | (exfalso; omega; done) | exact absurd True.intro hb | ((conv => whnf); try simp only [gO, gWe, ne_eq, Nat.reduceEqDiff, not_false_eq_true, true_or, or_true, true_and])) | fail)
        exact nx _ _ (Or.inr ⟨z, f4, f5⟩)
      · refine gB_gG [70] 300 ?_
        (conv => whnf); try simp only [gO, gWe, ne_eq, Nat.reduceEqDiff, not_false_eq_true, true_or, or_true, true_and]
        repeat' (first | exact True.intro | (refine ⟨fun hb => ?_, fun hb => ?_⟩ <;> first | (exfalso; omega; done) | exact absurd True.intro hb | ((conv => whnf); try simp only [gO, gWe, ne_eq, Nat.reduceEqDiff, not_false_eq_true, true_or, or_true, true_and])) | (refine ⟨by omega, ?_⟩; (conv => whnf); try simp only [gO, gWe, ne_eq, Nat.reduceEqDiff, not_false_eq_true, true_or, or_true, true_and]) | (refine ⟨fun hb => ?_, ?_⟩ <;> first | (exfalso; omega; done) | exact absurd True.intro hb | ((conv => whnf); try simp only [gO, gWe, ne_eq, Nat.reduceEqDiff, not_false_eq_true, true_or, or_true, true_and])) | fail)
        exact nx _ _ (Or.inl ⟨z, f5, f4⟩)
    · obtain ⟨f2, f3, -⟩ := f1 ν hν
      refine gB_gG [70] 300 ?_
      (conv => whnf); try simp only [gO, gWe, ne_eq, Nat.reduceEqDiff, not_false_eq_true, true_or, or_true, true_and]
      repeat' (first | exact True.intro | (refine ⟨fun hb => ?_, fun hb => ?_⟩ <;> first | (exfalso; omega; done) | exact absurd True.intro hb | ((conv => whnf); try simp only [gO, gWe, ne_eq, Nat.reduceEqDiff, not_false_eq_true, true_or, or_true, true_and])) | (refine ⟨by omega, ?_⟩; (conv => whnf); try simp only [gO, gWe, ne_eq, Nat.reduceEqDiff, not_false_eq_true, true_or, or_true, true_and]) | (refine ⟨fun hb => ?_, ?_⟩ <;> first | (exfalso; omega; done) | exact absurd True.intro hb | ((conv => whnf); try simp only [gO, gWe, ne_eq, Nat.reduceEqDiff, not_false_eq_true, true_or, or_true, true_and])) | fail)
      refine h ν hν (fun e e0 e1 => ?_)
      rw [f3] at e1
      rw [f2, f3, hν 4 (by decide), hν 5 (by decide)]
      exact ⟨ht e e0 e1, hk e e0 e1⟩
  have loop2 : ∀ a : Int, 0 ≤ a → a ≤ (μ 1 0) → ∀ (ν : MU), gFr [16, 10, 11, 12] μ ν → dEq (μ 1 0) (μ 1 1) ν (gFold (dTop (μ 1 1).toNat (μ 4) (μ 5)) a.toNat (fun _ => 0, fun _ => 0)) → gG g_T g_F (gCall g_T g_F sN sX d) sN sX (g_T 25) Q 36 [gR 9, gI a] [] g_SH ν 0 0 := by
    refine g_up (fun a a0 a1 ih ν hν hk => ?_) (fun ν hν hk => ?_)
    · rw [show (a + 1).toNat = a.toNat + 1 by omega, show gFold (dTop (μ 1 1).toNat (μ 4) (μ 5)) (a.toNat + 1) (fun _ => 0, fun _ => 0) = dTop (μ 1 1).toNat (μ 4) (μ 5) (a.toNat : Int) (gFold (dTop (μ 1 1).toNat (μ 4) (μ 5)) a.toNat (fun _ => 0, fun _ => 0)) from rfl, show ((a.toNat : Nat) : Int) = a by omega] at ih
      generalize gFold (dTop (μ 1 1).toNat (μ 4) (μ 5)) a.toNat (fun _ => 0, fun _ => 0) = q at *
      obtain ⟨f2, f3, f4⟩ := f1 ν hν
      have hv := hk.1 a a0 a1
      unfold dTop at ih
      by_cases h2 : q.1 a = 0
      · rw [if_pos h2] at ih
        refine gB_gG [36] 300 ?_
        (conv => whnf); try simp only [gO, gWe, ne_eq, Nat.reduceEqDiff, not_false_eq_true, true_or, or_true, true_and]
        repeat' (first | exact True.intro | (refine ⟨fun hb => ?_, fun hb => ?_⟩ <;> first | (exfalso; omega; done) | exact absurd True.intro hb | ((conv => whnf); try simp only [gO, gWe, ne_eq, Nat.reduceEqDiff, not_false_eq_true, true_or, or_true, true_and])) | (refine ⟨by omega, ?_⟩; (conv => whnf); try simp only [gO, gWe, ne_eq, Nat.reduceEqDiff, not_false_eq_true, true_or, or_true, true_and]) | (refine ⟨fun hb => ?_, ?_⟩ <;> first | (exfalso; omega; done) | exact absurd True.intro hb | ((conv => whnf); try simp only [gO, gWe, ne_eq, Nat.reduceEqDiff, not_false_eq_true, true_or, or_true, true_and])) | fail)
        refine t_26 12 (by omega) (s := q) f4 (by omega) (by omega) a0 (by omega) (by rw [f2, f3]; exact hk) (fun τ hτ ht => ?_)
        rw [f2, f3, hν 4 (by decide), hν 5 (by decide)] at ht
        (conv => whnf); try simp only [gO, gWe, ne_eq, Nat.reduceEqDiff, not_false_eq_true, true_or, or_true, true_and]
        repeat' (first | exact True.intro | (refine ⟨fun hb => ?_, fun hb => ?_⟩ <;> first | (exfalso; omega; done) | exact absurd True.intro hb | ((conv => whnf); try simp only [gO, gWe, ne_eq, Nat.reduceEqDiff, not_false_eq_true, true_or, or_true, true_and])) | (refine ⟨by omega, ?_⟩; (conv => whnf); try simp only [gO, gWe, ne_eq, Nat.reduceEqDiff, not_false_eq_true, true_or, or_true, true_and]) | (refine ⟨fun hb => ?_, ?_⟩ <;> first | (exfalso; omega; done) | exact absurd True.intro hb | ((conv => whnf); try simp only [gO, gWe, ne_eq, Nat.reduceEqDiff, not_false_eq_true, true_or, or_true, true_and])) | fail)
        exact ih τ (hν.tr (hτ.mo (by decide))) ht
      · rw [if_neg h2] at ih
        refine gB_gG [36] 300 ?_
        (conv => whnf); try simp only [gO, gWe, ne_eq, Nat.reduceEqDiff, not_false_eq_true, true_or, or_true, true_and]
        repeat' (first | exact True.intro | (refine ⟨fun hb => ?_, fun hb => ?_⟩ <;> first | (exfalso; omega; done) | exact absurd True.intro hb | ((conv => whnf); try simp only [gO, gWe, ne_eq, Nat.reduceEqDiff, not_false_eq_true, true_or, or_true, true_and])) | (refine ⟨by omega, ?_⟩; (conv => whnf); try simp only [gO, gWe, ne_eq, Nat.reduceEqDiff, not_false_eq_true, true_or, or_true, true_and]) | (refine ⟨fun hb => ?_, ?_⟩ <;> first | (exfalso; omega; done) | exact absurd True.intro hb | ((conv => whnf); try simp only [gO, gWe, ne_eq, Nat.reduceEqDiff, not_false_eq_true, true_or, or_true, true_and])) | fail)
        exact ih ν hν hk
    · obtain ⟨f2, f3, f4⟩ := f1 ν hν
      refine gB_gG [36,70] 300 ?_
      (conv => whnf); try simp only [gO, gWe, ne_eq, Nat.reduceEqDiff, not_false_eq_true, true_or, or_true, true_and]
      repeat' (first | exact True.intro | (refine ⟨fun hb => ?_, fun hb => ?_⟩ <;> first | (exfalso; omega; done) | exact absurd True.intro hb | ((conv => whnf); try simp only [gO, gWe, ne_eq, Nat.reduceEqDiff, not_false_eq_true, true_or, or_true, true_and])) | (refine ⟨by omega, ?_⟩; (conv => whnf); try simp only [gO, gWe, ne_eq, Nat.reduceEqDiff, not_false_eq_true, true_or, or_true, true_and]) | (refine ⟨fun hb => ?_, ?_⟩ <;> first | (exfalso; omega; done) | exact absurd True.intro hb | ((conv => whnf); try simp only [gO, gWe, ne_eq, Nat.reduceEqDiff, not_false_eq_true, true_or, or_true, true_and])) | fail)
      exact loop3 0 (by omega) (by omega) ν hν hk.2 (fun i _ _ => by omega)
  have loop1 : ∀ e : Int, 0 ≤ e → e ≤ (μ 1 1) → ∀ (ν : MU), gFr [16, 10, 11, 12] μ ν → (∀ j : Int, 0 ≤ j → j < 12 → (ν 16) j = 0) → (∀ i : Int, 0 ≤ i → i < e → (ν 10) i = 0) → gG g_T g_F (gCall g_T g_F sN sX d) sN sX (g_T 25) Q 10 [gR 9, gI e] [] g_SH ν 0 0 := by
    refine g_up (fun e e0 e1 ih ν hν hv ht => ?_) (fun ν hν hv ht => ?_)
    · obtain ⟨f2, f3, f4⟩ := f1 ν hν
      refine gB_gG [10] 300 ?_
      (conv => whnf); try simp only [gO, gWe, ne_eq, Nat.reduceEqDiff, not_false_eq_true, true_or, or_true, true_and]
      repeat' (first | exact True.intro | (refine ⟨fun hb => ?_, fun hb => ?_⟩ <;> first | (exfalso; omega; done) | exact absurd True.intro hb | ((conv => whnf); try simp only [gO, gWe, ne_eq, Nat.reduceEqDiff, not_false_eq_true, true_or, or_true, true_and])) | (refine ⟨by omega, ?_⟩; (conv => whnf); try simp only [gO, gWe, ne_eq, Nat.reduceEqDiff, not_false_eq_true, true_or, or_true, true_and]) | (refine ⟨fun hb => ?_, ?_⟩ <;> first | (exfalso; omega; done) | exact absurd True.intro hb | ((conv => whnf); try simp only [gO, gWe, ne_eq, Nat.reduceEqDiff, not_false_eq_true, true_or, or_true, true_and])) | fail)
      refine ih _ (hν.W (by decide)) hv (fun i i0 i1 => ?_)
      show gW ν 10 e 0 10 i = 0
      by_cases c : i = e
      · rw [c]; exact gWe _ _ _ _
      · rw [gWn _ _ _ c]; exact ht i i0 (by omega)
    · obtain ⟨f2, f3, f4⟩ := f1 ν hν
      refine gB_gG [10,36] 300 ?_
      (conv => whnf); try simp only [gO, gWe, ne_eq, Nat.reduceEqDiff, not_false_eq_true, true_or, or_true, true_and]
      repeat' (first | exact True.intro | (refine ⟨fun hb => ?_, fun hb => ?_⟩ <;> first | (exfalso; omega; done) | exact absurd True.intro hb | ((conv => whnf); try simp only [gO, gWe, ne_eq, Nat.reduceEqDiff, not_false_eq_true, true_or, or_true, true_and])) | (refine ⟨by omega, ?_⟩; (conv => whnf); try simp only [gO, gWe, ne_eq, Nat.reduceEqDiff, not_false_eq_true, true_or, or_true, true_and]) | (refine ⟨fun hb => ?_, ?_⟩ <;> first | (exfalso; omega; done) | exact absurd True.intro hb | ((conv => whnf); try simp only [gO, gWe, ne_eq, Nat.reduceEqDiff, not_false_eq_true, true_or, or_true, true_and])) | fail)
      exact loop2 0 (by omega) (by omega) ν hν ⟨fun i i0 i1 => hv i i0 (by omega), ht⟩
  exact loop1 0 (by omega) (by omega) ν₁ (hν₁.mo (by decide)) v0 (fun i _ _ => by omega)
