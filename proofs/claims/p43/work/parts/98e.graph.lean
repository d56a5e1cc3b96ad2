variable {sN : Int} {sX : Int → Int}
/-! the law's cell and graph -/
def xCl (N : Int) (X : Int → Int) (k : Int) : Int := gAnd (if k < N then X k else 15485869 * k + 149) 2147483647
theorem xCl_b (N : Int) (X : Int → Int) (k : Int) : 0 ≤ xCl N X k ∧ xCl N X k < 2147483648 := g_and31 _
theorem r_124 {D : Nat} (hD : 1 ≤ D) {μ : MU} {Q : GQ} {k : Int} (k0 : 0 ≤ k ∧ k ≤ 100) (h : Q (some (gI (xCl sN sX k))) g_SH μ) : gCall g_T g_F sN sX D 124 [gN 1, gI k] g_SH μ Q := by
  unfold xCl at h
  by_cases c : k < sN
  · rw [if_pos c] at h
    obtain ⟨d, rfl⟩ := gD (show 1 ≤ D by omega)
    refine gC 300 [] rfl ?_
    (conv => whnf); try simp only [gO, gWe, ne_eq, Nat.reduceEqDiff, not_false_eq_true, true_or, or_true, true_and]
    repeat' (first | exact True.intro | (refine ⟨fun hb => ?_, fun hb => ?_⟩ <;> first | (exfalso; omega; done) | exact absurd True.intro hb | ((conv => whnf); try simp only [gO, gWe, ne_eq, Nat.reduceEqDiff, not_false_eq_true, true_or, or_true, true_and])) | (refine ⟨by omega, ?_⟩; (conv => whnf); try simp only [gO, gWe, ne_eq, Nat.reduceEqDiff, not_false_eq_true, true_or, or_true, true_and]) | (refine ⟨fun hb => ?_, ?_⟩ <;> first | (exfalso; omega; done) | exact absurd True.intro hb | ((conv => whnf); try simp only [gO, gWe, ne_eq, Nat.reduceEqDiff, not_false_eq_true, true_or, or_true, true_and])) | fail)
    exact h
  · rw [if_neg c] at h
    obtain ⟨d, rfl⟩ := gD (show 1 ≤ D by omega)
    refine gC 300 [] rfl ?_
    (conv => whnf); try simp only [gO, gWe, ne_eq, Nat.reduceEqDiff, not_false_eq_true, true_or, or_true, true_and]
    repeat' (first | exact True.intro | (refine ⟨fun hb => ?_, fun hb => ?_⟩ <;> first | (exfalso; omega; done) | exact absurd True.intro hb | ((conv => whnf); try simp only [gO, gWe, ne_eq, Nat.reduceEqDiff, not_false_eq_true, true_or, or_true, true_and])) | (refine ⟨by omega, ?_⟩; (conv => whnf); try simp only [gO, gWe, ne_eq, Nat.reduceEqDiff, not_false_eq_true, true_or, or_true, true_and]) | (refine ⟨fun hb => ?_, ?_⟩ <;> first | (exfalso; omega; done) | exact absurd True.intro hb | ((conv => whnf); try simp only [gO, gWe, ne_eq, Nat.reduceEqDiff, not_false_eq_true, true_or, or_true, true_and])) | fail)
    exact h
def xW0 (N : Int) (X : Int → Int) (i : Int) : Int := 1 + gRem (xCl N X (1 + i)) 5
def xG0 (N : Int) (X : Int → Int) (i : Int) : Int := gRem (gShr (xCl N X (1 + i)) 4) 3
theorem xW0_b (N : Int) (X : Int → Int) (i : Int) : 1 ≤ xW0 N X i ∧ xW0 N X i ≤ 5 := by
  have c := xCl_b N X (1 + i)
  have r := g_rm (a := xCl N X (1 + i)) (b := 5) c.1 c.2 (by omega) (by omega)
  unfold xW0
  omega
theorem xG0_b (N : Int) (X : Int → Int) (i : Int) : 0 ≤ xG0 N X i ∧ xG0 N X i ≤ 2 := by
  have c := xCl_b N X (1 + i)
  have s := g_s4 c
  have r := g_rm (a := gShr (xCl N X (1 + i)) 4) (b := 3) s.1 (by omega) (by omega) (by omega)
  unfold xG0
  omega
/-- n nodes, by the cells -/
def hNd (N : Int) (X : Int → Int) (ν : MU) (n : Int) : Prop := iA ν ∧ (0 < n → (ν 0 6) = 0) ∧ (ν 1 0) = n ∧ ∀ j : Int, 0 ≤ j → j < n → (ν 2) j = xW0 N X j ∧ (ν 3) j = xG0 N X j
theorem r_125b {d : Nat} (hd : 37 ≤ d) {μ : MU} {Q : GQ} {n m : Int} (n0 : 2 ≤ n ∧ n ≤ 9) (m0 : 4 ≤ m ∧ m ≤ 11)
    (h : ∀ ω : MU, gFr [0, 1, 2, 3, 4, 5, 6, 7, 8, 9, 10, 11, 12, 13, 14, 15, 16, 17, 18] μ ω → hNd sN sX ω n → (ω 1 1) ≤ 11 → Q (some (gI ((ω 1 1)))) g_SH ω) : ∀ i : Int, 0 ≤ i → i ≤ m → ∀ (ν : MU) (x8 x9 x10 : GV), gFr [0, 1, 2, 3, 4, 5, 6, 7, 8, 9, 10, 11, 12, 13, 14, 15, 16, 17, 18] μ ν → hNd sN sX ν n → (ν 1 1) ≤ i → gG g_T g_F (gCall g_T g_F sN sX d) sN sX (g_T 125) Q 51 [gR 0, gN 1, gI 1, gI n, gI m, gI 2, gI (ν 1 1), gI i, x8, x9, x10] [] g_SH ν 0 0 := by
  refine g_up (fun i i0 i1 ih ν x8 x9 x10 hν hn he => ?_) (fun ν x8 x9 x10 hν hn he => ?_)
  · have G := hn.1.1.1
    have hn3 := hn.2.2.1
    have cb := xCl_b sN sX (1 + n + i)
    have s4 := g_s4 cb
    have s8 := g_s8 cb
    have s10 := g_s10 cb
    have s12 := g_s12 cb
    have a0 := g_rm (a := xCl sN sX (1 + n + i)) (b := n) cb.1 cb.2 (by omega) (by omega)
    have b0 := g_rm (a := gShr (xCl sN sX (1 + n + i)) 4) (b := n) s4.1 (by omega) (by omega) (by omega)
    have p0 := g_rm (a := gShr (xCl sN sX (1 + n + i)) 8) (b := 4) s8.1 (by omega) (by omega) (by omega)
    have q0 := g_rm (a := gShr (xCl sN sX (1 + n + i)) 10) (b := 4) s10.1 (by omega) (by omega) (by omega)
    have l2 := g_rm (a := gShr (xCl sN sX (1 + n + i)) 12) (b := 2) s12.1 (by omega) (by omega) (by omega)
    have l3 := g_rm (a := gShr (xCl sN sX (1 + n + i)) 12) (b := 3) s12.1 (by omega) (by omega) (by omega)
    by_cases c : gRem (xCl sN sX (1 + n + i)) n = gRem (gShr (xCl sN sX (1 + n + i)) 4) n
    · have i2 := fun x8 x9 x10 => ih ν x8 x9 x10 hν hn (by omega)
      clear ih h
      refine gB_gG [51] 300 ?_
      (conv => whnf); try simp only [gO, gWe, ne_eq, Nat.reduceEqDiff, not_false_eq_true, true_or, or_true, true_and]
      repeat' (first | exact True.intro | (refine ⟨fun hb => ?_, fun hb => ?_⟩ <;> first | (exfalso; omega; done) | exact absurd True.intro hb | ((conv => whnf); try simp only [gO, gWe, ne_eq, Nat.reduceEqDiff, not_false_eq_true, true_or, or_true, true_and])) | (refine ⟨by omega, ?_⟩; (conv => whnf); try simp only [gO, gWe, ne_eq, Nat.reduceEqDiff, not_false_eq_true, true_or, or_true, true_and]) | (refine ⟨fun hb => ?_, ?_⟩ <;> first | (exfalso; omega; done) | exact absurd True.intro hb | ((conv => whnf); try simp only [gO, gWe, ne_eq, Nat.reduceEqDiff, not_false_eq_true, true_or, or_true, true_and])) | fail)
      refine r_124 (by omega) (by omega) ?_
      generalize xCl sN sX (1 + n + i) = y at *
      (conv => whnf); try simp only [gO, gWe, ne_eq, Nat.reduceEqDiff, not_false_eq_true, true_or, or_true, true_and]
      repeat' (first | exact True.intro | (refine ⟨fun hb => ?_, fun hb => ?_⟩ <;> first | (exfalso; omega; done) | exact absurd True.intro hb | ((conv => whnf); try simp only [gO, gWe, ne_eq, Nat.reduceEqDiff, not_false_eq_true, true_or, or_true, true_and])) | (refine ⟨by omega, ?_⟩; (conv => whnf); try simp only [gO, gWe, ne_eq, Nat.reduceEqDiff, not_false_eq_true, true_or, or_true, true_and]) | (refine ⟨fun hb => ?_, ?_⟩ <;> first | (exfalso; omega; done) | exact absurd True.intro hb | ((conv => whnf); try simp only [gO, gWe, ne_eq, Nat.reduceEqDiff, not_false_eq_true, true_or, or_true, true_and])) | fail)
      exact i2 _ _ _
    · have key : ∀ l : Int, 1 ≤ l → l ≤ 3 → ∀ ω : MU, gFr [0, 1, 4, 5, 6, 7, 8, 9, 10, 11, 12, 13, 14, 15, 16, 17, 18] ν ω → iA ω → (ω 0 6) = 0 → (ω 1 0) = (ν 1 0) → (ω 1 1) = (ν 1 1) + 1 → ∀ x8 x9 x10 : GV, gG g_T g_F (gCall g_T g_F sN sX d) sN sX (g_T 125) Q 51 [gR 0, gN 1, gI 1, gI n, gI m, gI 2, gI ((ν 1 1) + 1), gI (i + 1), x8, x9, x10] [] g_SH ω 0 0 := by
        intro l _ _ ω g1 A1 l1 n1 e1 x8 x9 x10
        have f := ih ω x8 x9 x10 (hν.tr (g1.mo (by decide))) ⟨A1, fun _ => l1, n1.trans hn3, fun j j0 j1 => by rw [g1 2 (by decide), g1 3 (by decide)]; exact hn.2.2.2 j j0 j1⟩ (by omega)
        rw [e1] at f
        exact f
      clear ih h
      by_cases cm : m ≤ 6
      · refine gB_gG [51] 300 ?_
        (conv => whnf); try simp only [gO, gWe, ne_eq, Nat.reduceEqDiff, not_false_eq_true, true_or, or_true, true_and]
        repeat' (first | exact True.intro | (refine ⟨fun hb => ?_, fun hb => ?_⟩ <;> first | (exfalso; omega; done) | exact absurd True.intro hb | ((conv => whnf); try simp only [gO, gWe, ne_eq, Nat.reduceEqDiff, not_false_eq_true, true_or, or_true, true_and])) | (refine ⟨by omega, ?_⟩; (conv => whnf); try simp only [gO, gWe, ne_eq, Nat.reduceEqDiff, not_false_eq_true, true_or, or_true, true_and]) | (refine ⟨fun hb => ?_, ?_⟩ <;> first | (exfalso; omega; done) | exact absurd True.intro hb | ((conv => whnf); try simp only [gO, gWe, ne_eq, Nat.reduceEqDiff, not_false_eq_true, true_or, or_true, true_and])) | fail)
        refine r_124 (by omega) (by omega) ?_
        generalize xCl sN sX (1 + n + i) = y at *
        (conv => whnf); try simp only [gO, gWe, ne_eq, Nat.reduceEqDiff, not_false_eq_true, true_or, or_true, true_and]
        repeat' (first | exact True.intro | (refine ⟨fun hb => ?_, fun hb => ?_⟩ <;> first | (exfalso; omega; done) | exact absurd True.intro hb | ((conv => whnf); try simp only [gO, gWe, ne_eq, Nat.reduceEqDiff, not_false_eq_true, true_or, or_true, true_and])) | (refine ⟨by omega, ?_⟩; (conv => whnf); try simp only [gO, gWe, ne_eq, Nat.reduceEqDiff, not_false_eq_true, true_or, or_true, true_and]) | (refine ⟨fun hb => ?_, ?_⟩ <;> first | (exfalso; omega; done) | exact absurd True.intro hb | ((conv => whnf); try simp only [gO, gWe, ne_eq, Nat.reduceEqDiff, not_false_eq_true, true_or, or_true, true_and])) | fail)
        refine p_77 (by omega) hn.1 (by omega) (by omega) c (by omega) (by omega) (by omega) (by omega) (fun ω g1 A1 l1 n1 e1 => ?_)
        have f := key 1 (by omega) (by omega) ω g1 A1 l1 n1 e1
        (conv => whnf); try simp only [gO, gWe, ne_eq, Nat.reduceEqDiff, not_false_eq_true, true_or, or_true, true_and]
        repeat' (first | exact True.intro | (refine ⟨fun hb => ?_, fun hb => ?_⟩ <;> first | (exfalso; omega; done) | exact absurd True.intro hb | ((conv => whnf); try simp only [gO, gWe, ne_eq, Nat.reduceEqDiff, not_false_eq_true, true_or, or_true, true_and])) | (refine ⟨by omega, ?_⟩; (conv => whnf); try simp only [gO, gWe, ne_eq, Nat.reduceEqDiff, not_false_eq_true, true_or, or_true, true_and]) | (refine ⟨fun hb => ?_, ?_⟩ <;> first | (exfalso; omega; done) | exact absurd True.intro hb | ((conv => whnf); try simp only [gO, gWe, ne_eq, Nat.reduceEqDiff, not_false_eq_true, true_or, or_true, true_and])) | fail)
        exact f _ _ _
      · refine gB_gG [51] 300 ?_
        (conv => whnf); try simp only [gO, gWe, ne_eq, Nat.reduceEqDiff, not_false_eq_true, true_or, or_true, true_and]
        repeat' (first | exact True.intro | (refine ⟨fun hb => ?_, fun hb => ?_⟩ <;> first | (exfalso; omega; done) | exact absurd True.intro hb | ((conv => whnf); try simp only [gO, gWe, ne_eq, Nat.reduceEqDiff, not_false_eq_true, true_or, or_true, true_and])) | (refine ⟨by omega, ?_⟩; (conv => whnf); try simp only [gO, gWe, ne_eq, Nat.reduceEqDiff, not_false_eq_true, true_or, or_true, true_and]) | (refine ⟨fun hb => ?_, ?_⟩ <;> first | (exfalso; omega; done) | exact absurd True.intro hb | ((conv => whnf); try simp only [gO, gWe, ne_eq, Nat.reduceEqDiff, not_false_eq_true, true_or, or_true, true_and])) | fail)
        refine r_124 (by omega) (by omega) ?_
        generalize xCl sN sX (1 + n + i) = y at *
        (conv => whnf); try simp only [gO, gWe, ne_eq, Nat.reduceEqDiff, not_false_eq_true, true_or, or_true, true_and]
        repeat' (first | exact True.intro | (refine ⟨fun hb => ?_, fun hb => ?_⟩ <;> first | (exfalso; omega; done) | exact absurd True.intro hb | ((conv => whnf); try simp only [gO, gWe, ne_eq, Nat.reduceEqDiff, not_false_eq_true, true_or, or_true, true_and])) | (refine ⟨by omega, ?_⟩; (conv => whnf); try simp only [gO, gWe, ne_eq, Nat.reduceEqDiff, not_false_eq_true, true_or, or_true, true_and]) | (refine ⟨fun hb => ?_, ?_⟩ <;> first | (exfalso; omega; done) | exact absurd True.intro hb | ((conv => whnf); try simp only [gO, gWe, ne_eq, Nat.reduceEqDiff, not_false_eq_true, true_or, or_true, true_and])) | fail)
        refine p_77 (by omega) hn.1 (by omega) (by omega) c (by omega) (by omega) (by omega) (by omega) (fun ω g1 A1 l1 n1 e1 => ?_)
        have f := key 1 (by omega) (by omega) ω g1 A1 l1 n1 e1
        (conv => whnf); try simp only [gO, gWe, ne_eq, Nat.reduceEqDiff, not_false_eq_true, true_or, or_true, true_and]
        repeat' (first | exact True.intro | (refine ⟨fun hb => ?_, fun hb => ?_⟩ <;> first | (exfalso; omega; done) | exact absurd True.intro hb | ((conv => whnf); try simp only [gO, gWe, ne_eq, Nat.reduceEqDiff, not_false_eq_true, true_or, or_true, true_and])) | (refine ⟨by omega, ?_⟩; (conv => whnf); try simp only [gO, gWe, ne_eq, Nat.reduceEqDiff, not_false_eq_true, true_or, or_true, true_and]) | (refine ⟨fun hb => ?_, ?_⟩ <;> first | (exfalso; omega; done) | exact absurd True.intro hb | ((conv => whnf); try simp only [gO, gWe, ne_eq, Nat.reduceEqDiff, not_false_eq_true, true_or, or_true, true_and])) | fail)
        exact f _ _ _
  · have f := h ν hν hn (by omega)
    clear h
    refine gB_gG [] 300 ?_
    (conv => whnf); try simp only [gO, gWe, ne_eq, Nat.reduceEqDiff, not_false_eq_true, true_or, or_true, true_and]
    repeat' (first | exact True.intro | (refine ⟨fun hb => ?_, fun hb => ?_⟩ <;> first | (exfalso; omega; done) | exact absurd True.intro hb | ((conv => whnf); try simp only [gO, gWe, ne_eq, Nat.reduceEqDiff, not_false_eq_true, true_or, or_true, true_and])) | (refine ⟨by omega, ?_⟩; (conv => whnf); try simp only [gO, gWe, ne_eq, Nat.reduceEqDiff, not_false_eq_true, true_or, or_true, true_and]) | (refine ⟨fun hb => ?_, ?_⟩ <;> first | (exfalso; omega; done) | exact absurd True.intro hb | ((conv => whnf); try simp only [gO, gWe, ne_eq, Nat.reduceEqDiff, not_false_eq_true, true_or, or_true, true_and])) | fail)
    exact f
theorem r_125 {D : Nat} (hD : 38 ≤ D) {μ : MU} {Q : GQ} {n m : Int} (n0 : 2 ≤ n ∧ n ≤ 9) (m0 : 4 ≤ m ∧ m ≤ 11) (hA : iA μ) (z0 : (μ 1 0) = 0 ∧ (μ 1 1) = 0)
    (h : ∀ ω : MU, gFr [0, 1, 2, 3, 4, 5, 6, 7, 8, 9, 10, 11, 12, 13, 14, 15, 16, 17, 18] μ ω → hNd sN sX ω n → (ω 1 1) ≤ 11 → Q (some (gI ((ω 1 1)))) g_SH ω) : gCall g_T g_F sN sX D 125 [gR 0, gN 1, gI 1, gI n, gI m, gI 2] g_SH μ Q := by
  obtain ⟨d, rfl⟩ := gD (show 1 ≤ D by omega)
  have two := r_125b (d := d) (Q := Q) (sN := sN) (sX := sX) (by omega) n0 m0 h 0 (by omega) (by omega)
  have one : ∀ i : Int, 0 ≤ i → i ≤ n → ∀ (ν : MU) (x7 x8 x9 x10 : GV), gFr [0, 1, 2, 3, 4, 5, 6, 7, 8, 9, 10, 11, 12, 13, 14, 15, 16, 17, 18] μ ν → hNd sN sX ν i → (ν 1 1) = 0 → gG g_T g_F (gCall g_T g_F sN sX d) sN sX (g_T 125) Q 3 [gR 0, gN 1, gI 1, gI n, gI m, gI 2, gI i, x7, x8, x9, x10] [] g_SH ν 0 0 := by
    refine g_up (fun i i0 i1 ih ν x7 x8 x9 x10 hν hn he => ?_) (fun ν x7 x8 x9 x10 hν hn he => ?_)
    · have hn3 := hn.2.2.1
      have cb := xCl_b sN sX (1 + i)
      have s4 := g_s4 cb
      have wb := xW0_b sN sX i
      have gb := xG0_b sN sX i
      have ew : 1 + gRem (xCl sN sX (1 + i)) 5 = xW0 sN sX i := rfl
      have eg : gRem (gShr (xCl sN sX (1 + i)) 4) (2 + 1) = xG0 sN sX i := rfl
      clear two h
      refine gB_gG [3] 300 ?_
      (conv => whnf); try simp only [gO, gWe, ne_eq, Nat.reduceEqDiff, not_false_eq_true, true_or, or_true, true_and]
      repeat' (first | exact True.intro | (refine ⟨fun hb => ?_, fun hb => ?_⟩ <;> first | (exfalso; omega; done) | exact absurd True.intro hb | ((conv => whnf); try simp only [gO, gWe, ne_eq, Nat.reduceEqDiff, not_false_eq_true, true_or, or_true, true_and])) | (refine ⟨by omega, ?_⟩; (conv => whnf); try simp only [gO, gWe, ne_eq, Nat.reduceEqDiff, not_false_eq_true, true_or, or_true, true_and]) | (refine ⟨fun hb => ?_, ?_⟩ <;> first | (exfalso; omega; done) | exact absurd True.intro hb | ((conv => whnf); try simp only [gO, gWe, ne_eq, Nat.reduceEqDiff, not_false_eq_true, true_or, or_true, true_and])) | fail)
      refine r_124 (by omega) (by omega) ?_
      (conv => whnf); try simp only [gO, gWe, ne_eq, Nat.reduceEqDiff, not_false_eq_true, true_or, or_true, true_and]
      repeat' (first | exact True.intro | (refine ⟨fun hb => ?_, fun hb => ?_⟩ <;> first | (exfalso; omega; done) | exact absurd True.intro hb | ((conv => whnf); try simp only [gO, gWe, ne_eq, Nat.reduceEqDiff, not_false_eq_true, true_or, or_true, true_and])) | (refine ⟨by omega, ?_⟩; (conv => whnf); try simp only [gO, gWe, ne_eq, Nat.reduceEqDiff, not_false_eq_true, true_or, or_true, true_and]) | (refine ⟨fun hb => ?_, ?_⟩ <;> first | (exfalso; omega; done) | exact absurd True.intro hb | ((conv => whnf); try simp only [gO, gWe, ne_eq, Nat.reduceEqDiff, not_false_eq_true, true_or, or_true, true_and])) | fail)
      rw [ew, eg]
      refine p_76 (by omega) hn.1 (by omega) (by omega) (by omega) (fun ω g1 A1 l1 n1 e1 w1 r1 => ?_)
      have f := fun x7 => ih ω x7 x8 x9 x10 (hν.tr g1) ⟨A1, fun _ => l1, by omega, fun j j0 j1 => by
        rw [w1, r1, hn3]
        by_cases c : j = i
        · rw [c, gUp_e, gUp_e]
          exact ⟨rfl, rfl⟩
        · rw [gUp_n c, gUp_n c]
          exact hn.2.2.2 j j0 (by omega)⟩ (by omega)
      clear ih
      (conv => whnf); try simp only [gO, gWe, ne_eq, Nat.reduceEqDiff, not_false_eq_true, true_or, or_true, true_and]
      repeat' (first | exact True.intro | (refine ⟨fun hb => ?_, fun hb => ?_⟩ <;> first | (exfalso; omega; done) | exact absurd True.intro hb | ((conv => whnf); try simp only [gO, gWe, ne_eq, Nat.reduceEqDiff, not_false_eq_true, true_or, or_true, true_and])) | (refine ⟨by omega, ?_⟩; (conv => whnf); try simp only [gO, gWe, ne_eq, Nat.reduceEqDiff, not_false_eq_true, true_or, or_true, true_and]) | (refine ⟨fun hb => ?_, ?_⟩ <;> first | (exfalso; omega; done) | exact absurd True.intro hb | ((conv => whnf); try simp only [gO, gWe, ne_eq, Nat.reduceEqDiff, not_false_eq_true, true_or, or_true, true_and])) | fail)
      exact f _
    · have f := fun x8 => two ν x8 x9 x10 hν hn (by omega)
      rw [he] at f
      clear two h
      refine gB_gG [51] 300 ?_
      (conv => whnf); try simp only [gO, gWe, ne_eq, Nat.reduceEqDiff, not_false_eq_true, true_or, or_true, true_and]
      repeat' (first | exact True.intro | (refine ⟨fun hb => ?_, fun hb => ?_⟩ <;> first | (exfalso; omega; done) | exact absurd True.intro hb | ((conv => whnf); try simp only [gO, gWe, ne_eq, Nat.reduceEqDiff, not_false_eq_true, true_or, or_true, true_and])) | (refine ⟨by omega, ?_⟩; (conv => whnf); try simp only [gO, gWe, ne_eq, Nat.reduceEqDiff, not_false_eq_true, true_or, or_true, true_and]) | (refine ⟨fun hb => ?_, ?_⟩ <;> first | (exfalso; omega; done) | exact absurd True.intro hb | ((conv => whnf); try simp only [gO, gWe, ne_eq, Nat.reduceEqDiff, not_false_eq_true, true_or, or_true, true_and])) | fail)
      exact f _
  have f := fun x7 x8 x9 x10 => one 0 (by omega) (by omega) μ x7 x8 x9 x10 gFr.rf ⟨hA, fun c => absurd c (by omega), z0.1, fun j j0 j1 => by omega⟩ z0.2
  clear one two
  refine gC 300 [3] rfl ?_
  (conv => whnf); try simp only [gO, gWe, ne_eq, Nat.reduceEqDiff, not_false_eq_true, true_or, or_true, true_and]
  exact f _ _ _ _
