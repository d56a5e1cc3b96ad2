variable {sN : Int} {sX : Int → Int}
/-! the cases left and width -/
def hMx (f : Int → Int) : Nat → Int
  | 0 => 0
  | k + 1 => max (hMx f k) (f k)
theorem hMx_0 (f : Int → Int) : ∀ n : Nat, 0 ≤ hMx f n := by
  intro n
  induction n with
  | zero => exact Int.le_refl _
  | succ n ih => unfold hMx; omega
theorem hMx_i {f : Int → Int} : ∀ (n : Nat) (i : Int), 0 ≤ i → i < n → f i ≤ hMx f n := by
  intro n
  induction n with
  | zero => intro i i0 i1; omega
  | succ n ih =>
    intro i i0 i1
    unfold hMx
    by_cases c : i = n
    · rw [c]; omega
    · have := ih i i0 (by omega)
      omega
theorem hMx_l {f : Int → Int} {B : Int} (hB : 0 ≤ B) : ∀ n : Nat, (∀ i : Int, 0 ≤ i → i < n → f i ≤ B) → hMx f n ≤ B := by
  intro n
  induction n with
  | zero => intro _; exact hB
  | succ n ih =>
    intro h
    have a := ih (fun i i0 i1 => h i i0 (by omega))
    have b := h n (by omega) (by omega)
    unfold hMx
    omega
def xRt (μ : MU) (v : Int) : Int := (μ 34) v + xWd μ v
theorem hMx_p {μ : MU} (hG : iG μ) (hL : iL μ) (hN : iN μ) {sq pl f : Int → Int} (hO : iO μ sq pl) : hMx (fun k => f (sq k)) (μ 19 2).toNat = hMx f (μ 19 2).toNat := by
  refine Int.le_antisymm (hMx_l (hMx_0 _ _) _ (fun i i0 i1 => ?_)) (hMx_l (hMx_0 _ _) _ (fun v v0 v1 => ?_))
  · have a := (iO_k hG hL hN hO i0 (show i < (μ 19 2) by omega)).1
    exact hMx_i _ (sq i) a.1 (by omega)
  · have b := iO_v hG hL hN hO v0 (show v < (μ 19 2) by omega)
    have b1 := b.2.1
    have b2 := b.2.2.1
    have c := hMx_i (f := fun k => f (sq k)) (μ 19 2).toNat ((μ 23) ((μ 21) v) + pl v) (by omega) (by omega)
    have c' : f (sq ((μ 23) ((μ 21) v) + pl v)) ≤ _ := c
    rw [b.2.2.2] at c'
    exact c'
theorem t_5 {D : Nat} (hD : 2 ≤ D) {μ : MU} {Q : GQ} {v : Int} (hG : iG μ) (h0 : 0 ≤ v) (h1 : v < 60) (hl : 0 ≤ (μ 34) v ∧ (μ 34) v ≤ 1000) (h : Q (some (gI (xRt μ v))) g_SH μ) : gCall g_T g_F sN sX D 5 [gR 33, gI v] g_SH μ Q := by
  have b := xWd_b hG h0
  unfold xRt at h
  obtain ⟨d, rfl⟩ := gD (show 1 ≤ D by omega)
  refine gC 300 [] rfl ?_
  (conv => whnf); try simp only [gO, gWe, ne_eq, Nat.reduceEqDiff, not_false_eq_true, true_or, or_true, true_and]
  repeat' (first | exact True.intro | (refine ⟨fun hb => ?_, fun hb => ?_⟩ <;> first | (exfalso; omega; done) | exact absurd True.intro hb | ((conv => whnf); try simp only [gO, gWe, ne_eq, Nat.reduceEqDiff, not_false_eq_true, true_or, or_true, true_and])) | (refine ⟨by omega, ?_⟩; (conv => whnf); try simp only [gO, gWe, ne_eq, Nat.reduceEqDiff, not_false_eq_true, true_or, or_true, true_and]) | (refine ⟨fun hb => ?_, ?_⟩ <;> first | (exfalso; omega; done) | exact absurd True.intro hb | ((conv => whnf); try simp only [gO, gWe, ne_eq, Nat.reduceEqDiff, not_false_eq_true, true_or, or_true, true_and])) | fail)
  refine t_42 (by omega) hG h0 ?_
  (conv => whnf); try simp only [gO, gWe, ne_eq, Nat.reduceEqDiff, not_false_eq_true, true_or, or_true, true_and]
  repeat' (first | exact True.intro | (refine ⟨fun hb => ?_, fun hb => ?_⟩ <;> first | (exfalso; omega; done) | exact absurd True.intro hb | ((conv => whnf); try simp only [gO, gWe, ne_eq, Nat.reduceEqDiff, not_false_eq_true, true_or, or_true, true_and])) | (refine ⟨by omega, ?_⟩; (conv => whnf); try simp only [gO, gWe, ne_eq, Nat.reduceEqDiff, not_false_eq_true, true_or, or_true, true_and]) | (refine ⟨fun hb => ?_, ?_⟩ <;> first | (exfalso; omega; done) | exact absurd True.intro hb | ((conv => whnf); try simp only [gO, gWe, ne_eq, Nat.reduceEqDiff, not_false_eq_true, true_or, or_true, true_and])) | fail)
  exact h
theorem t_6 {D : Nat} (hD : 3 ≤ D) {μ : MU} {Q : GQ} (hG : iG μ) (hV : 0 ≤ (μ 19 2) ∧ (μ 19 2) ≤ 60) (hl : ∀ v : Int, 0 ≤ v → v < (μ 19 2) → 0 ≤ (μ 34) v ∧ (μ 34) v ≤ 1000) (h : Q (some (gI (hMx (xRt μ) (μ 19 2).toNat))) g_SH μ) : gCall g_T g_F sN sX D 6 [gR 33] g_SH μ Q := by
  obtain ⟨d, rfl⟩ := gD (show 1 ≤ D by omega)
  refine gC 300 [4] rfl ?_
  (conv => whnf); try simp only [gO, gWe, ne_eq, Nat.reduceEqDiff, not_false_eq_true, true_or, or_true, true_and]
  have key : ∀ v : Int, 0 ≤ v → v ≤ (μ 19 2) → gG g_T g_F (gCall g_T g_F sN sX d) sN sX (g_T 6) Q 4 [gR 33, gI (hMx (xRt μ) v.toNat), gI v] [] g_SH μ 0 0 := by
    refine g_up (fun v v0 v1 ih => ?_) ?_
    · rw [show (v + 1).toNat = v.toNat + 1 by omega, show hMx (xRt μ) (v.toNat + 1) = max (hMx (xRt μ) v.toNat) (xRt μ ((v.toNat : Nat) : Int)) from rfl, show ((v.toNat : Nat) : Int) = v by omega] at ih
      generalize hMx (xRt μ) v.toNat = m at *
      refine gB_gG [4] 300 ?_
      (conv => whnf); try simp only [gO, gWe, ne_eq, Nat.reduceEqDiff, not_false_eq_true, true_or, or_true, true_and]
      repeat' (first | exact True.intro | (refine ⟨fun hb => ?_, fun hb => ?_⟩ <;> first | (exfalso; omega; done) | exact absurd True.intro hb | ((conv => whnf); try simp only [gO, gWe, ne_eq, Nat.reduceEqDiff, not_false_eq_true, true_or, or_true, true_and])) | (refine ⟨by omega, ?_⟩; (conv => whnf); try simp only [gO, gWe, ne_eq, Nat.reduceEqDiff, not_false_eq_true, true_or, or_true, true_and]) | (refine ⟨fun hb => ?_, ?_⟩ <;> first | (exfalso; omega; done) | exact absurd True.intro hb | ((conv => whnf); try simp only [gO, gWe, ne_eq, Nat.reduceEqDiff, not_false_eq_true, true_or, or_true, true_and])) | fail)
      refine t_5 (by omega) hG v0 (by omega) (hl v v0 v1) ?_
      (conv => whnf); try simp only [gO, gWe, ne_eq, Nat.reduceEqDiff, not_false_eq_true, true_or, or_true, true_and]
      repeat' (first | exact True.intro | (refine ⟨fun hb => ?_, fun hb => ?_⟩ <;> first | (exfalso; omega; done) | exact absurd True.intro hb | ((conv => whnf); try simp only [gO, gWe, ne_eq, Nat.reduceEqDiff, not_false_eq_true, true_or, or_true, true_and])) | (refine ⟨by omega, ?_⟩; (conv => whnf); try simp only [gO, gWe, ne_eq, Nat.reduceEqDiff, not_false_eq_true, true_or, or_true, true_and]) | (refine ⟨fun hb => ?_, ?_⟩ <;> first | (exfalso; omega; done) | exact absurd True.intro hb | ((conv => whnf); try simp only [gO, gWe, ne_eq, Nat.reduceEqDiff, not_false_eq_true, true_or, or_true, true_and])) | fail)
      exact ih
    · refine gB_gG [4] 300 ?_
      (conv => whnf); try simp only [gO, gWe, ne_eq, Nat.reduceEqDiff, not_false_eq_true, true_or, or_true, true_and]
      repeat' (first | exact True.intro | (refine ⟨fun hb => ?_, fun hb => ?_⟩ <;> first | (exfalso; omega; done) | exact absurd True.intro hb | ((conv => whnf); try simp only [gO, gWe, ne_eq, Nat.reduceEqDiff, not_false_eq_true, true_or, or_true, true_and])) | (refine ⟨by omega, ?_⟩; (conv => whnf); try simp only [gO, gWe, ne_eq, Nat.reduceEqDiff, not_false_eq_true, true_or, or_true, true_and]) | (refine ⟨fun hb => ?_, ?_⟩ <;> first | (exfalso; omega; done) | exact absurd True.intro hb | ((conv => whnf); try simp only [gO, gWe, ne_eq, Nat.reduceEqDiff, not_false_eq_true, true_or, or_true, true_and])) | fail)
      exact h
  exact key 0 (by omega) (by omega)
