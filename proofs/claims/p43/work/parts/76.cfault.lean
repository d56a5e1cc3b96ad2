variable {sN : Int} {sX : Int → Int}
/-! a text, edge by edge -/
def pPo (hr : Int → Int) (n : Int) : Nat → Int
  | 0 => 0
  | k + 1 => pPs hr n (pPo hr n k)
def hGd (hr : Int → Int) (n ln : Int) (K : Nat) : Prop := ∀ k : Nat, k < K → pPo hr n k < ln ∧ pOk hr n (pPo hr n k)
theorem pOk_p {μ : MU} (hT : hTx μ) {n p : Int} (hn : 0 ≤ n) (p0 : 0 ≤ p) (h : pOk (pHr (μ 37) (μ 36 1)) n p) : p + 4 ≤ pPs (pHr (μ 37) (μ 36 1)) n p ∧ pPs (pHr (μ 37) (μ 36 1)) n p ≤ (μ 36 1) := by
  have bb := pE_b (hr := pHr (μ 37) (μ 36 1)) (n := n) (p := p) hn
  have vv := pE_v (hr := pHr (μ 37) (μ 36 1)) (n := n) (p := p) hn
  obtain ⟨h1, h2, h3, h4, h5, h6, h7⟩ := h
  unfold pPs
  rw [if_neg (by omega), if_neg (by omega), if_neg (not_not_intro h3), if_neg (by omega), if_neg (by omega), if_neg (by omega), if_neg (not_not_intro h7)]
  have e := pHr_b hT (show 0 ≤ (pE5 (pHr (μ 37) (μ 36 1)) n p).2 by omega)
  have v1 := vv.1.2 h1
  have v3 := vv.2.2.1.2 h4
  refine ⟨by omega, ?_⟩
  rcases e with e | e
  · omega
  · rw [h7] at e; omega
theorem hGd_b {μ : MU} (hT : hTx μ) {n : Int} (hn : 0 ≤ n) : ∀ K : Nat, hGd (pHr (μ 37) (μ 36 1)) n (μ 36 1) K → 4 * (K : Int) ≤ pPo (pHr (μ 37) (μ 36 1)) n K ∧ pPo (pHr (μ 37) (μ 36 1)) n K ≤ (μ 36 1) := by
  have T := hT.1
  intro K
  induction K with
  | zero => intro _; exact ⟨by show 4 * ((0 : Nat) : Int) ≤ 0; omega, T.1⟩
  | succ K ih =>
    intro h
    have i := ih (fun k hk => h k (by omega))
    have g := h K (by omega)
    have p := pOk_p hT hn (show 0 ≤ pPo (pHr (μ 37) (μ 36 1)) n K by omega) g.2
    have e : pPo (pHr (μ 37) (μ 36 1)) n (K + 1) = pPs (pHr (μ 37) (μ 36 1)) n (pPo (pHr (μ 37) (μ 36 1)) n K) := rfl
    rw [e]
    omega
def hEn (hr : Int → Int) (n ln : Int) (K : Nat) : Prop := ln ≤ pPo hr n K ∨ (pPo hr n K < ln ∧ ¬ pOk hr n (pPo hr n K))
theorem hK_x {μ : MU} (hT : hTx μ) {n : Int} (hn : 0 ≤ n) : ∃ K : Nat, K ≤ 25 ∧ hGd (pHr (μ 37) (μ 36 1)) n (μ 36 1) K ∧ hEn (pHr (μ 37) (μ 36 1)) n (μ 36 1) K := by
  have T := hT.1
  have key : ∀ m : Nat, (∃ K : Nat, K < m ∧ hGd (pHr (μ 37) (μ 36 1)) n (μ 36 1) K ∧ hEn (pHr (μ 37) (μ 36 1)) n (μ 36 1) K) ∨ hGd (pHr (μ 37) (μ 36 1)) n (μ 36 1) m := by
    intro m
    induction m with
    | zero => exact Or.inr (fun k hk => by omega)
    | succ m ih =>
      rcases ih with ⟨K, k0, k1⟩ | g
      · exact Or.inl ⟨K, by omega, k1⟩
      · by_cases c : pPo (pHr (μ 37) (μ 36 1)) n m < (μ 36 1)
        · by_cases d : pOk (pHr (μ 37) (μ 36 1)) n (pPo (pHr (μ 37) (μ 36 1)) n m)
          · refine Or.inr (fun k hk => ?_)
            by_cases e : k = m
            · rw [e]; exact ⟨c, d⟩
            · exact g k (by omega)
          · exact Or.inl ⟨m, by omega, g, Or.inr ⟨c, d⟩⟩
        · exact Or.inl ⟨m, by omega, g, Or.inl (by omega)⟩
  rcases key 26 with ⟨K, k0, k1⟩ | g
  · exact ⟨K, by omega, k1⟩
  · have := hGd_b hT hn 26 g
    omega
theorem pPs_b {hr : Int → Int} {n p : Int} (hn : 0 ≤ n) : p ≤ pPs hr n p ∧ pPs hr n p ≤ p + 12 := by
  have bb := pE_b (hr := hr) (n := n) (p := p) hn
  unfold pPs
  split
  · omega
  · split
    · omega
    · split
      · omega
      · split
        · omega
        · split
          · omega
          · split
            · omega
            · split <;> omega
theorem t_68 {D : Nat} (hD : 5 ≤ D) {μ : MU} {Q : GQ} {n : Int} {K : Nat} {hr : Int → Int} (hh0 : pHr (μ 37) (μ 36 1) = hr) (hT : hTx μ) (hn : 0 ≤ n ∧ n ≤ 12) (K1 : K ≤ 25) (hg : hGd hr n (μ 36 1) K) (he : hEn hr n (μ 36 1) K)
    (ko : (μ 36 1) ≤ pPo hr n K → ∀ ν : MU, gFr [36] μ ν → ν 36 1 = μ 36 1 → ν 36 3 = K → Q (some (gI (-4))) g_SH ν)
    (kf : pPo hr n K < (μ 36 1) → ¬ pOk hr n (pPo hr n K) → ∀ ν : MU, gFr [36] μ ν → ν 36 1 = μ 36 1 → Q (some (gI (pPs hr n (pPo hr n K)))) g_SH ν) : gCall g_T g_F sN sX D 68 [gR 36, gI n] g_SH μ Q := by
  have T := hT.1
  have gb := fun (k : Nat) (hk : k ≤ K) => (by
    have := hGd_b hT hn.1 k (by rw [hh0]; exact fun j hj => hg j (by omega))
    rw [hh0] at this
    exact this : 4 * (k : Int) ≤ pPo hr n k ∧ pPo hr n k ≤ (μ 36 1))
  obtain ⟨d, rfl⟩ := gD (show 1 ≤ D by omega)
  refine gC 300 [12] rfl ?_
  (conv => whnf); try simp only [gO, gWe, ne_eq, Nat.reduceEqDiff, not_false_eq_true, true_or, or_true, true_and]
  repeat' (first | exact True.intro | (refine ⟨fun hb => ?_, fun hb => ?_⟩ <;> first | (exfalso; omega; done) | exact absurd True.intro hb | ((conv => whnf); try simp only [gO, gWe, ne_eq, Nat.reduceEqDiff, not_false_eq_true, true_or, or_true, true_and])) | (refine ⟨by omega, ?_⟩; (conv => whnf); try simp only [gO, gWe, ne_eq, Nat.reduceEqDiff, not_false_eq_true, true_or, or_true, true_and]) | (refine ⟨fun hb => ?_, ?_⟩ <;> first | (exfalso; omega; done) | exact absurd True.intro hb | ((conv => whnf); try simp only [gO, gWe, ne_eq, Nat.reduceEqDiff, not_false_eq_true, true_or, or_true, true_and])) | fail)
  have key : ∀ k : Int, 0 ≤ k → k ≤ K → ∀ ρ : MU, gFr [36] μ ρ → ρ 36 1 = μ 36 1 → ρ 36 3 = k → ρ 36 2 = pPo hr n k.toNat → gG g_T g_F (gCall g_T g_F sN sX d) sN sX (g_T 68) Q 12 [gR 36, gI n, gI k] [] g_SH ρ 0 0 := by
    refine g_up (fun k k0 k1 ih ρ hρ r1 r3 r2 => ?_) (fun ρ hρ r1 r3 r2 => ?_)
    · have b := gb k.toNat (by omega)
      have g := hg k.toNat (by omega)
      have tx := hT_c r1 (hρ 37 (by decide)) hT
      have i := fun ρ' a b c d => ih ρ' a b c d
      rw [show (k + 1).toNat = k.toNat + 1 by omega, show pPo hr n (k.toNat + 1) = pPs hr n (pPo hr n k.toNat) from rfl] at i
      generalize pPo hr n k.toNat = p at *
      have g1 := g.1
      clear ih ko kf he gb
      refine gB_gG [12] 300 ?_
      (conv => whnf); try simp only [gO, gWe, ne_eq, Nat.reduceEqDiff, not_false_eq_true, true_or, or_true, true_and]
      repeat' (first | exact True.intro | (refine ⟨fun hb => ?_, fun hb => ?_⟩ <;> first | (exfalso; omega; done) | exact absurd True.intro hb | ((conv => whnf); try simp only [gO, gWe, ne_eq, Nat.reduceEqDiff, not_false_eq_true, true_or, or_true, true_and])) | (refine ⟨by omega, ?_⟩; (conv => whnf); try simp only [gO, gWe, ne_eq, Nat.reduceEqDiff, not_false_eq_true, true_or, or_true, true_and]) | (refine ⟨fun hb => ?_, ?_⟩ <;> first | (exfalso; omega; done) | exact absurd True.intro hb | ((conv => whnf); try simp only [gO, gWe, ne_eq, Nat.reduceEqDiff, not_false_eq_true, true_or, or_true, true_and])) | fail)
      refine t_69 (by omega) (tx.2.trans hh0) tx.1 r2 (by omega) hn (fun _ ν hν n2 _ => ?_) (fun c => absurd g.2 c)
      have j := i (gW ν 36 3 (ν 36 3 + 1)) ((hρ.tr hν.1).W (by decide)) (by rw [gWn _ _ _ (by decide), hν.2.1]; exact r1) (by rw [gWe, hν.2.2]; omega) (by rw [gWn _ _ _ (by decide)]; exact n2)
      have n3 : ν 36 3 = k := by rw [hν.2.2]; exact r3
      clear i
      (conv => whnf); try simp only [gO, gWe, ne_eq, Nat.reduceEqDiff, not_false_eq_true, true_or, or_true, true_and]
      repeat' (first | exact True.intro | (refine ⟨fun hb => ?_, fun hb => ?_⟩ <;> first | (exfalso; omega; done) | exact absurd True.intro hb | ((conv => whnf); try simp only [gO, gWe, ne_eq, Nat.reduceEqDiff, not_false_eq_true, true_or, or_true, true_and])) | (refine ⟨by omega, ?_⟩; (conv => whnf); try simp only [gO, gWe, ne_eq, Nat.reduceEqDiff, not_false_eq_true, true_or, or_true, true_and]) | (refine ⟨fun hb => ?_, ?_⟩ <;> first | (exfalso; omega; done) | exact absurd True.intro hb | ((conv => whnf); try simp only [gO, gWe, ne_eq, Nat.reduceEqDiff, not_false_eq_true, true_or, or_true, true_and])) | fail)
      exact j
    · have b := gb K (by omega)
      have tx := hT_c r1 (hρ 37 (by decide)) hT
      rw [Int.toNat_natCast] at r2
      rcases he with c | ⟨c, d⟩
      · have f := ko c ρ hρ r1 r3
        clear ko kf gb
        refine gB_gG [12] 300 ?_
        (conv => whnf); try simp only [gO, gWe, ne_eq, Nat.reduceEqDiff, not_false_eq_true, true_or, or_true, true_and]
        repeat' (first | exact True.intro | (refine ⟨fun hb => ?_, fun hb => ?_⟩ <;> first | (exfalso; omega; done) | exact absurd True.intro hb | ((conv => whnf); try simp only [gO, gWe, ne_eq, Nat.reduceEqDiff, not_false_eq_true, true_or, or_true, true_and])) | (refine ⟨by omega, ?_⟩; (conv => whnf); try simp only [gO, gWe, ne_eq, Nat.reduceEqDiff, not_false_eq_true, true_or, or_true, true_and]) | (refine ⟨fun hb => ?_, ?_⟩ <;> first | (exfalso; omega; done) | exact absurd True.intro hb | ((conv => whnf); try simp only [gO, gWe, ne_eq, Nat.reduceEqDiff, not_false_eq_true, true_or, or_true, true_and])) | fail)
        exact f
      · have f := fun ν h1 h2 => kf c d ν h1 h2
        have pb := pPs_b (hr := hr) (n := n) (p := pPo hr n K) hn.1
        clear ko kf gb
        generalize pPo hr n K = p at *
        refine gB_gG [12] 300 ?_
        (conv => whnf); try simp only [gO, gWe, ne_eq, Nat.reduceEqDiff, not_false_eq_true, true_or, or_true, true_and]
        repeat' (first | exact True.intro | (refine ⟨fun hb => ?_, fun hb => ?_⟩ <;> first | (exfalso; omega; done) | exact absurd True.intro hb | ((conv => whnf); try simp only [gO, gWe, ne_eq, Nat.reduceEqDiff, not_false_eq_true, true_or, or_true, true_and])) | (refine ⟨by omega, ?_⟩; (conv => whnf); try simp only [gO, gWe, ne_eq, Nat.reduceEqDiff, not_false_eq_true, true_or, or_true, true_and]) | (refine ⟨fun hb => ?_, ?_⟩ <;> first | (exfalso; omega; done) | exact absurd True.intro hb | ((conv => whnf); try simp only [gO, gWe, ne_eq, Nat.reduceEqDiff, not_false_eq_true, true_or, or_true, true_and])) | fail)
        refine t_69 (by omega) (tx.2.trans hh0) tx.1 r2 (by omega) hn (fun c => absurd c d) (fun _ ν hν n2 => ?_)
        have f2 := f ν (hρ.tr hν.1) (hν.2.1.trans r1)
        rw [← n2] at f2
        clear f
        (conv => whnf); try simp only [gO, gWe, ne_eq, Nat.reduceEqDiff, not_false_eq_true, true_or, or_true, true_and]
        repeat' (first | exact True.intro | (refine ⟨fun hb => ?_, fun hb => ?_⟩ <;> first | (exfalso; omega; done) | exact absurd True.intro hb | ((conv => whnf); try simp only [gO, gWe, ne_eq, Nat.reduceEqDiff, not_false_eq_true, true_or, or_true, true_and])) | (refine ⟨by omega, ?_⟩; (conv => whnf); try simp only [gO, gWe, ne_eq, Nat.reduceEqDiff, not_false_eq_true, true_or, or_true, true_and]) | (refine ⟨fun hb => ?_, ?_⟩ <;> first | (exfalso; omega; done) | exact absurd True.intro hb | ((conv => whnf); try simp only [gO, gWe, ne_eq, Nat.reduceEqDiff, not_false_eq_true, true_or, or_true, true_and])) | fail)
        exact f2
  exact key 0 (by omega) (by omega) _ ((gFr.rf.W (by decide)).W (by decide)) (by rw [gWn _ _ _ (by decide), gWn _ _ _ (by decide)]) (gWe _ _ _ _) (by rw [gWn _ _ _ (by decide), gWe]; rfl)
