variable {sN : Int} {sX : Int → Int}
/-! the case border -/
def hMn (f p : Int → Int) (g : Int) : Nat → Int
  | 0 => 1073741824
  | k + 1 => if p k = g then min (hMn f p g k) (f k) else hMn f p g k
def hMg2 (f p : Int → Int) (g : Int) : Nat → Int
  | 0 => 0
  | k + 1 => if p k = g then max (hMg2 f p g k) (f k) else hMg2 f p g k
theorem hMn_b {f p : Int → Int} {g : Int} {n : Nat} (h : ∀ i : Int, 0 ≤ i → i < n → 0 ≤ f i ∧ f i ≤ 2000) : ∀ k : Nat, k ≤ n → (0 ≤ hMn f p g k ∧ hMn f p g k ≤ 1073741824) ∧ 0 ≤ hMg2 f p g k ∧ hMg2 f p g k ≤ 2000 := by
  intro k
  induction k with
  | zero => intro _; exact ⟨⟨by show (0 : Int) ≤ 1073741824; omega, Int.le_refl _⟩, Int.le_refl _, by show (0 : Int) ≤ 2000; omega⟩
  | succ k ih =>
    intro hk
    have i := ih (by omega)
    have b := h k (by omega) (by omega)
    unfold hMn hMg2
    by_cases c : p k = g
    · rw [if_pos c, if_pos c]; omega
    · rw [if_neg c, if_neg c]; exact i
theorem t_17 {D : Nat} (hD : 1 ≤ D) {μ : MU} {Q : GQ} {g : Int} (hG : iG μ) (k1 : (∃ i : Int, 0 ≤ i ∧ i < (μ 1 0) ∧ (μ 3) i = g) → Q (some (gI (1))) g_SH μ) (k0 : (¬ ∃ i : Int, 0 ≤ i ∧ i < (μ 1 0) ∧ (μ 3) i = g) → Q (some (gI (0))) g_SH μ) : gCall g_T g_F sN sX D 17 [gR 1, gI g] g_SH μ Q := by
  have G := hG.1
  obtain ⟨d, rfl⟩ := gD (show 1 ≤ D by omega)
  refine gC 300 [2] rfl ?_
  (conv => whnf); try simp only [gO, gWe, ne_eq, Nat.reduceEqDiff, not_false_eq_true, true_or, or_true, true_and]
  have key : ∀ i : Int, 0 ≤ i → i ≤ (μ 1 0) → (∀ j : Int, 0 ≤ j → j < i → (μ 3) j ≠ g) → gG g_T g_F (gCall g_T g_F sN sX d) sN sX (g_T 17) Q 2 [gR 1, gI g, gI i] [] g_SH μ 0 0 := by
    refine g_up (fun i i0 i1 ih hk => ?_) (fun hk => ?_)
    · by_cases c : (μ 3) i = g
      · have f := k1 ⟨i, i0, i1, c⟩
        clear k1 k0 ih
        refine gB_gG [2] 300 ?_
        (conv => whnf); try simp only [gO, gWe, ne_eq, Nat.reduceEqDiff, not_false_eq_true, true_or, or_true, true_and]
        repeat' (first | exact True.intro | (refine ⟨fun hb => ?_, fun hb => ?_⟩ <;> first | (exfalso; omega; done) | exact absurd True.intro hb | ((conv => whnf); try simp only [gO, gWe, ne_eq, Nat.reduceEqDiff, not_false_eq_true, true_or, or_true, true_and])) | (refine ⟨by omega, ?_⟩; (conv => whnf); try simp only [gO, gWe, ne_eq, Nat.reduceEqDiff, not_false_eq_true, true_or, or_true, true_and]) | (refine ⟨fun hb => ?_, ?_⟩ <;> first | (exfalso; omega; done) | exact absurd True.intro hb | ((conv => whnf); try simp only [gO, gWe, ne_eq, Nat.reduceEqDiff, not_false_eq_true, true_or, or_true, true_and])) | fail)
        exact f
      · have f := ih (fun j j0 j1 => by
          by_cases d : j = i
          · rw [d]; exact c
          · exact hk j j0 (by omega))
        clear k1 k0 ih
        refine gB_gG [2] 300 ?_
        (conv => whnf); try simp only [gO, gWe, ne_eq, Nat.reduceEqDiff, not_false_eq_true, true_or, or_true, true_and]
        repeat' (first | exact True.intro | (refine ⟨fun hb => ?_, fun hb => ?_⟩ <;> first | (exfalso; omega; done) | exact absurd True.intro hb | ((conv => whnf); try simp only [gO, gWe, ne_eq, Nat.reduceEqDiff, not_false_eq_true, true_or, or_true, true_and])) | (refine ⟨by omega, ?_⟩; (conv => whnf); try simp only [gO, gWe, ne_eq, Nat.reduceEqDiff, not_false_eq_true, true_or, or_true, true_and]) | (refine ⟨fun hb => ?_, ?_⟩ <;> first | (exfalso; omega; done) | exact absurd True.intro hb | ((conv => whnf); try simp only [gO, gWe, ne_eq, Nat.reduceEqDiff, not_false_eq_true, true_or, or_true, true_and])) | fail)
        exact f
    · have f := k0 (fun ⟨i, i0, i1, i2⟩ => hk i i0 i1 i2)
      clear k1 k0
      refine gB_gG [2] 300 ?_
      (conv => whnf); try simp only [gO, gWe, ne_eq, Nat.reduceEqDiff, not_false_eq_true, true_or, or_true, true_and]
      repeat' (first | exact True.intro | (refine ⟨fun hb => ?_, fun hb => ?_⟩ <;> first | (exfalso; omega; done) | exact absurd True.intro hb | ((conv => whnf); try simp only [gO, gWe, ne_eq, Nat.reduceEqDiff, not_false_eq_true, true_or, or_true, true_and])) | (refine ⟨by omega, ?_⟩; (conv => whnf); try simp only [gO, gWe, ne_eq, Nat.reduceEqDiff, not_false_eq_true, true_or, or_true, true_and]) | (refine ⟨fun hb => ?_, ?_⟩ <;> first | (exfalso; omega; done) | exact absurd True.intro hb | ((conv => whnf); try simp only [gO, gWe, ne_eq, Nat.reduceEqDiff, not_false_eq_true, true_or, or_true, true_and])) | fail)
      exact f
  exact key 0 (by omega) (by omega) (fun j _ _ => by omega)
def hLB (μ : MU) : Prop := ∀ v : Int, 0 ≤ v → v < (μ 19 2) → 0 ≤ (μ 34) v ∧ (μ 34) v ≤ 1000
theorem xRt_b {μ : MU} (hG : iG μ) (hX : hLB μ) {v : Int} (v0 : 0 ≤ v) (v1 : v < (μ 19 2)) : 0 ≤ xRt μ v ∧ xRt μ v ≤ 2000 := by
  have a := hX v v0 v1
  have b := xWd_b hG v0
  unfold xRt
  omega
theorem t_10_0 {D : Nat} (hD : 4 ≤ D) {μ : MU} {Q : GQ} {g : Int} (hG : iG μ) (hL : iL μ) (hN : iN μ) (hX : hLB μ) (h : Q (some (gI (hMn (if (0 : Int) = 0 then (μ 34) else (μ 13)) (μ 3) g (μ 1 0).toNat))) g_SH μ) : gCall g_T g_F sN sX D 10 [gR 33, gI g, gI 0] g_SH μ Q := by
  have G := hG.1
  have V := hN.1
  have fb : ∀ i : Int, 0 ≤ i → i < (μ 1 0) → 0 ≤ (if (0 : Int) = 0 then (μ 34) else (μ 13)) i ∧ (if (0 : Int) = 0 then (μ 34) else (μ 13)) i ≤ 2000 := fun i i0 i1 => by
    have a := hX i i0 (by omega)
    have b := hL.2.2.1 i i0 i1
    have c := hL.2.2.2.1
    by_cases d : (0 : Int) = 0
    · rw [if_pos d]; omega
    · rw [if_neg d]; omega
  obtain ⟨d, rfl⟩ := gD (show 1 ≤ D by omega)
  refine gC 300 [30] rfl ?_
  (conv => whnf); try simp only [gO, gWe, ne_eq, Nat.reduceEqDiff, not_false_eq_true, true_or, or_true, true_and]
  repeat' (first | exact True.intro | (refine ⟨fun hb => ?_, fun hb => ?_⟩ <;> first | (exfalso; omega; done) | exact absurd True.intro hb | ((conv => whnf); try simp only [gO, gWe, ne_eq, Nat.reduceEqDiff, not_false_eq_true, true_or, or_true, true_and])) | (refine ⟨by omega, ?_⟩; (conv => whnf); try simp only [gO, gWe, ne_eq, Nat.reduceEqDiff, not_false_eq_true, true_or, or_true, true_and]) | (refine ⟨fun hb => ?_, ?_⟩ <;> first | (exfalso; omega; done) | exact absurd True.intro hb | ((conv => whnf); try simp only [gO, gWe, ne_eq, Nat.reduceEqDiff, not_false_eq_true, true_or, or_true, true_and])) | fail)
  have key : ∀ i : Int, 0 ≤ i → i ≤ (μ 1 0) → ∀ x : GV, gG g_T g_F (gCall g_T g_F sN sX d) sN sX (g_T 10) Q 30 [gR 33, gI g, gI 0, gI 1, gI (hMn (if (0 : Int) = 0 then (μ 34) else (μ 13)) (μ 3) g i.toNat), gI i, x] [] g_SH μ 0 0 := by
    refine g_up (fun i i0 i1 ih x => ?_) (fun x => ?_)
    · have b := (hMn_b (f := if (0 : Int) = 0 then (μ 34) else (μ 13)) (p := (μ 3)) (g := g) (n := (μ 1 0).toNat) (fun i i0 i1 => fb i i0 (by omega)) i.toNat (by omega)).1
      have v := fb i i0 i1
      rw [show (i + 1).toNat = i.toNat + 1 by omega] at ih
      unfold hMn at ih
      rw [show ((i.toNat : Nat) : Int) = i by omega] at ih
      have va : (if (0 : Int) = 0 then (μ 34) else (μ 13)) i = if (0 : Int) = 0 then (μ 34) i else (μ 13) i := by split <;> rfl
      generalize hMn (if (0 : Int) = 0 then (μ 34) else (μ 13)) (μ 3) g i.toNat = m at *
      clear fb
      by_cases c : (μ 3) i = g
      · rw [if_pos c] at ih
        have i2 := ih (gI ((if (0 : Int) = 0 then (μ 34) else (μ 13)) i))
        clear ih
        refine gB_gG [30] 300 ?_
        (conv => whnf); try simp only [gO, gWe, ne_eq, Nat.reduceEqDiff, not_false_eq_true, true_or, or_true, true_and]
        repeat' (first | exact True.intro | (refine ⟨fun hb => ?_, fun hb => ?_⟩ <;> first | (exfalso; omega; done) | exact absurd True.intro hb | ((conv => whnf); try simp only [gO, gWe, ne_eq, Nat.reduceEqDiff, not_false_eq_true, true_or, or_true, true_and])) | (refine ⟨by omega, ?_⟩; (conv => whnf); try simp only [gO, gWe, ne_eq, Nat.reduceEqDiff, not_false_eq_true, true_or, or_true, true_and]) | (refine ⟨fun hb => ?_, ?_⟩ <;> first | (exfalso; omega; done) | exact absurd True.intro hb | ((conv => whnf); try simp only [gO, gWe, ne_eq, Nat.reduceEqDiff, not_false_eq_true, true_or, or_true, true_and])) | fail)
        obtain ⟨d, rfl⟩ := gD (show 1 ≤ d by omega)
        refine gC 300 [] rfl ?_
        (conv => whnf); try simp only [gO, gWe, ne_eq, Nat.reduceEqDiff, not_false_eq_true, true_or, or_true, true_and]
        repeat' (first | exact True.intro | (refine ⟨fun hb => ?_, fun hb => ?_⟩ <;> first | (exfalso; omega; done) | exact absurd True.intro hb | ((conv => whnf); try simp only [gO, gWe, ne_eq, Nat.reduceEqDiff, not_false_eq_true, true_or, or_true, true_and])) | (refine ⟨by omega, ?_⟩; (conv => whnf); try simp only [gO, gWe, ne_eq, Nat.reduceEqDiff, not_false_eq_true, true_or, or_true, true_and]) | (refine ⟨fun hb => ?_, ?_⟩ <;> first | (exfalso; omega; done) | exact absurd True.intro hb | ((conv => whnf); try simp only [gO, gWe, ne_eq, Nat.reduceEqDiff, not_false_eq_true, true_or, or_true, true_and])) | fail)
        exact i2
      · rw [if_neg c] at ih
        have i2 := ih x
        clear ih
        refine gB_gG [30] 300 ?_
        (conv => whnf); try simp only [gO, gWe, ne_eq, Nat.reduceEqDiff, not_false_eq_true, true_or, or_true, true_and]
        repeat' (first | exact True.intro | (refine ⟨fun hb => ?_, fun hb => ?_⟩ <;> first | (exfalso; omega; done) | exact absurd True.intro hb | ((conv => whnf); try simp only [gO, gWe, ne_eq, Nat.reduceEqDiff, not_false_eq_true, true_or, or_true, true_and])) | (refine ⟨by omega, ?_⟩; (conv => whnf); try simp only [gO, gWe, ne_eq, Nat.reduceEqDiff, not_false_eq_true, true_or, or_true, true_and]) | (refine ⟨fun hb => ?_, ?_⟩ <;> first | (exfalso; omega; done) | exact absurd True.intro hb | ((conv => whnf); try simp only [gO, gWe, ne_eq, Nat.reduceEqDiff, not_false_eq_true, true_or, or_true, true_and])) | fail)
        exact i2
    · clear fb
      refine gB_gG [30] 300 ?_
      (conv => whnf); try simp only [gO, gWe, ne_eq, Nat.reduceEqDiff, not_false_eq_true, true_or, or_true, true_and]
      repeat' (first | exact True.intro | (refine ⟨fun hb => ?_, fun hb => ?_⟩ <;> first | (exfalso; omega; done) | exact absurd True.intro hb | ((conv => whnf); try simp only [gO, gWe, ne_eq, Nat.reduceEqDiff, not_false_eq_true, true_or, or_true, true_and])) | (refine ⟨by omega, ?_⟩; (conv => whnf); try simp only [gO, gWe, ne_eq, Nat.reduceEqDiff, not_false_eq_true, true_or, or_true, true_and]) | (refine ⟨fun hb => ?_, ?_⟩ <;> first | (exfalso; omega; done) | exact absurd True.intro hb | ((conv => whnf); try simp only [gO, gWe, ne_eq, Nat.reduceEqDiff, not_false_eq_true, true_or, or_true, true_and])) | fail)
      exact h
  exact key 0 (by omega) (by omega) _
theorem t_10_2 {D : Nat} (hD : 4 ≤ D) {μ : MU} {Q : GQ} {g : Int} (hG : iG μ) (hL : iL μ) (hN : iN μ) (hX : hLB μ) (h : Q (some (gI (hMn (if (2 : Int) = 0 then (μ 34) else (μ 13)) (μ 3) g (μ 1 0).toNat))) g_SH μ) : gCall g_T g_F sN sX D 10 [gR 33, gI g, gI 2] g_SH μ Q := by
  have G := hG.1
  have V := hN.1
  have fb : ∀ i : Int, 0 ≤ i → i < (μ 1 0) → 0 ≤ (if (2 : Int) = 0 then (μ 34) else (μ 13)) i ∧ (if (2 : Int) = 0 then (μ 34) else (μ 13)) i ≤ 2000 := fun i i0 i1 => by
    have a := hX i i0 (by omega)
    have b := hL.2.2.1 i i0 i1
    have c := hL.2.2.2.1
    by_cases d : (2 : Int) = 0
    · rw [if_pos d]; omega
    · rw [if_neg d]; omega
  obtain ⟨d, rfl⟩ := gD (show 1 ≤ D by omega)
  refine gC 300 [30] rfl ?_
  (conv => whnf); try simp only [gO, gWe, ne_eq, Nat.reduceEqDiff, not_false_eq_true, true_or, or_true, true_and]
  repeat' (first | exact True.intro | (refine ⟨fun hb => ?_, fun hb => ?_⟩ <;> first | (exfalso; omega; done) | exact absurd True.intro hb | ((conv => whnf); try simp only [gO, gWe, ne_eq, Nat.reduceEqDiff, not_false_eq_true, true_or, or_true, true_and])) | (refine ⟨by omega, ?_⟩; (conv => whnf); try simp only [gO, gWe, ne_eq, Nat.reduceEqDiff, not_false_eq_true, true_or, or_true, true_and]) | (refine ⟨fun hb => ?_, ?_⟩ <;> first | (exfalso; omega; done) | exact absurd True.intro hb | ((conv => whnf); try simp only [gO, gWe, ne_eq, Nat.reduceEqDiff, not_false_eq_true, true_or, or_true, true_and])) | fail)
  have key : ∀ i : Int, 0 ≤ i → i ≤ (μ 1 0) → ∀ x : GV, gG g_T g_F (gCall g_T g_F sN sX d) sN sX (g_T 10) Q 30 [gR 33, gI g, gI 2, gI 1, gI (hMn (if (2 : Int) = 0 then (μ 34) else (μ 13)) (μ 3) g i.toNat), gI i, x] [] g_SH μ 0 0 := by
    refine g_up (fun i i0 i1 ih x => ?_) (fun x => ?_)
    · have b := (hMn_b (f := if (2 : Int) = 0 then (μ 34) else (μ 13)) (p := (μ 3)) (g := g) (n := (μ 1 0).toNat) (fun i i0 i1 => fb i i0 (by omega)) i.toNat (by omega)).1
      have v := fb i i0 i1
      rw [show (i + 1).toNat = i.toNat + 1 by omega] at ih
      unfold hMn at ih
      rw [show ((i.toNat : Nat) : Int) = i by omega] at ih
      have va : (if (2 : Int) = 0 then (μ 34) else (μ 13)) i = if (2 : Int) = 0 then (μ 34) i else (μ 13) i := by split <;> rfl
      generalize hMn (if (2 : Int) = 0 then (μ 34) else (μ 13)) (μ 3) g i.toNat = m at *
      clear fb
      by_cases c : (μ 3) i = g
      · rw [if_pos c] at ih
        have i2 := ih (gI ((if (2 : Int) = 0 then (μ 34) else (μ 13)) i))
        clear ih
        refine gB_gG [30] 300 ?_
        (conv => whnf); try simp only [gO, gWe, ne_eq, Nat.reduceEqDiff, not_false_eq_true, true_or, or_true, true_and]
        repeat' (first | exact True.intro | (refine ⟨fun hb => ?_, fun hb => ?_⟩ <;> first | (exfalso; omega; done) | exact absurd True.intro hb | ((conv => whnf); try simp only [gO, gWe, ne_eq, Nat.reduceEqDiff, not_false_eq_true, true_or, or_true, true_and])) | (refine ⟨by omega, ?_⟩; (conv => whnf); try simp only [gO, gWe, ne_eq, Nat.reduceEqDiff, not_false_eq_true, true_or, or_true, true_and]) | (refine ⟨fun hb => ?_, ?_⟩ <;> first | (exfalso; omega; done) | exact absurd True.intro hb | ((conv => whnf); try simp only [gO, gWe, ne_eq, Nat.reduceEqDiff, not_false_eq_true, true_or, or_true, true_and])) | fail)
        obtain ⟨d, rfl⟩ := gD (show 1 ≤ d by omega)
        refine gC 300 [] rfl ?_
        (conv => whnf); try simp only [gO, gWe, ne_eq, Nat.reduceEqDiff, not_false_eq_true, true_or, or_true, true_and]
        repeat' (first | exact True.intro | (refine ⟨fun hb => ?_, fun hb => ?_⟩ <;> first | (exfalso; omega; done) | exact absurd True.intro hb | ((conv => whnf); try simp only [gO, gWe, ne_eq, Nat.reduceEqDiff, not_false_eq_true, true_or, or_true, true_and])) | (refine ⟨by omega, ?_⟩; (conv => whnf); try simp only [gO, gWe, ne_eq, Nat.reduceEqDiff, not_false_eq_true, true_or, or_true, true_and]) | (refine ⟨fun hb => ?_, ?_⟩ <;> first | (exfalso; omega; done) | exact absurd True.intro hb | ((conv => whnf); try simp only [gO, gWe, ne_eq, Nat.reduceEqDiff, not_false_eq_true, true_or, or_true, true_and])) | fail)
        exact i2
      · rw [if_neg c] at ih
        have i2 := ih x
        clear ih
        refine gB_gG [30] 300 ?_
        (conv => whnf); try simp only [gO, gWe, ne_eq, Nat.reduceEqDiff, not_false_eq_true, true_or, or_true, true_and]
        repeat' (first | exact True.intro | (refine ⟨fun hb => ?_, fun hb => ?_⟩ <;> first | (exfalso; omega; done) | exact absurd True.intro hb | ((conv => whnf); try simp only [gO, gWe, ne_eq, Nat.reduceEqDiff, not_false_eq_true, true_or, or_true, true_and])) | (refine ⟨by omega, ?_⟩; (conv => whnf); try simp only [gO, gWe, ne_eq, Nat.reduceEqDiff, not_false_eq_true, true_or, or_true, true_and]) | (refine ⟨fun hb => ?_, ?_⟩ <;> first | (exfalso; omega; done) | exact absurd True.intro hb | ((conv => whnf); try simp only [gO, gWe, ne_eq, Nat.reduceEqDiff, not_false_eq_true, true_or, or_true, true_and])) | fail)
        exact i2
    · clear fb
      refine gB_gG [30] 300 ?_
      (conv => whnf); try simp only [gO, gWe, ne_eq, Nat.reduceEqDiff, not_false_eq_true, true_or, or_true, true_and]
      repeat' (first | exact True.intro | (refine ⟨fun hb => ?_, fun hb => ?_⟩ <;> first | (exfalso; omega; done) | exact absurd True.intro hb | ((conv => whnf); try simp only [gO, gWe, ne_eq, Nat.reduceEqDiff, not_false_eq_true, true_or, or_true, true_and])) | (refine ⟨by omega, ?_⟩; (conv => whnf); try simp only [gO, gWe, ne_eq, Nat.reduceEqDiff, not_false_eq_true, true_or, or_true, true_and]) | (refine ⟨fun hb => ?_, ?_⟩ <;> first | (exfalso; omega; done) | exact absurd True.intro hb | ((conv => whnf); try simp only [gO, gWe, ne_eq, Nat.reduceEqDiff, not_false_eq_true, true_or, or_true, true_and])) | fail)
      exact h
  exact key 0 (by omega) (by omega) _
theorem t_10_1 {D : Nat} (hD : 4 ≤ D) {μ : MU} {Q : GQ} {g : Int} (hG : iG μ) (hL : iL μ) (hN : iN μ) (hX : hLB μ) (h : Q (some (gI (hMg2 (if (1 : Int) = 1 then xRt μ else (μ 13)) (μ 3) g (μ 1 0).toNat))) g_SH μ) : gCall g_T g_F sN sX D 10 [gR 33, gI g, gI 1] g_SH μ Q := by
  have G := hG.1
  have V := hN.1
  have fb : ∀ i : Int, 0 ≤ i → i < (μ 1 0) → 0 ≤ (if (1 : Int) = 1 then xRt μ else (μ 13)) i ∧ (if (1 : Int) = 1 then xRt μ else (μ 13)) i ≤ 2000 := fun i i0 i1 => by
    have a := xRt_b hG hX i0 (show i < (μ 19 2) by omega)
    have b := hL.2.2.1 i i0 i1
    have c := hL.2.2.2.1
    by_cases d : (1 : Int) = 1
    · rw [if_pos d]; omega
    · rw [if_neg d]; omega
  obtain ⟨d, rfl⟩ := gD (show 1 ≤ D by omega)
  refine gC 300 [30] rfl ?_
  (conv => whnf); try simp only [gO, gWe, ne_eq, Nat.reduceEqDiff, not_false_eq_true, true_or, or_true, true_and]
  repeat' (first | exact True.intro | (refine ⟨fun hb => ?_, fun hb => ?_⟩ <;> first | (exfalso; omega; done) | exact absurd True.intro hb | ((conv => whnf); try simp only [gO, gWe, ne_eq, Nat.reduceEqDiff, not_false_eq_true, true_or, or_true, true_and])) | (refine ⟨by omega, ?_⟩; (conv => whnf); try simp only [gO, gWe, ne_eq, Nat.reduceEqDiff, not_false_eq_true, true_or, or_true, true_and]) | (refine ⟨fun hb => ?_, ?_⟩ <;> first | (exfalso; omega; done) | exact absurd True.intro hb | ((conv => whnf); try simp only [gO, gWe, ne_eq, Nat.reduceEqDiff, not_false_eq_true, true_or, or_true, true_and])) | fail)
  have key : ∀ i : Int, 0 ≤ i → i ≤ (μ 1 0) → ∀ x : GV, gG g_T g_F (gCall g_T g_F sN sX d) sN sX (g_T 10) Q 30 [gR 33, gI g, gI 1, gI 0, gI (hMg2 (if (1 : Int) = 1 then xRt μ else (μ 13)) (μ 3) g i.toNat), gI i, x] [] g_SH μ 0 0 := by
    refine g_up (fun i i0 i1 ih x => ?_) (fun x => ?_)
    · have b := (hMn_b (f := if (1 : Int) = 1 then xRt μ else (μ 13)) (p := (μ 3)) (g := g) (n := (μ 1 0).toNat) (fun i i0 i1 => fb i i0 (by omega)) i.toNat (by omega)).2
      have v := fb i i0 i1
      rw [show (i + 1).toNat = i.toNat + 1 by omega] at ih
      unfold hMg2 at ih
      rw [show ((i.toNat : Nat) : Int) = i by omega] at ih
      generalize hMg2 (if (1 : Int) = 1 then xRt μ else (μ 13)) (μ 3) g i.toNat = m at *
      clear fb
      have lv := hX i i0 (by omega)
      by_cases c : (μ 3) i = g
      · rw [if_pos c] at ih
        have i2 := ih (gI ((if (1 : Int) = 1 then xRt μ else (μ 13)) i))
        clear ih
        refine gB_gG [30] 300 ?_
        (conv => whnf); try simp only [gO, gWe, ne_eq, Nat.reduceEqDiff, not_false_eq_true, true_or, or_true, true_and]
        repeat' (first | exact True.intro | (refine ⟨fun hb => ?_, fun hb => ?_⟩ <;> first | (exfalso; omega; done) | exact absurd True.intro hb | ((conv => whnf); try simp only [gO, gWe, ne_eq, Nat.reduceEqDiff, not_false_eq_true, true_or, or_true, true_and])) | (refine ⟨by omega, ?_⟩; (conv => whnf); try simp only [gO, gWe, ne_eq, Nat.reduceEqDiff, not_false_eq_true, true_or, or_true, true_and]) | (refine ⟨fun hb => ?_, ?_⟩ <;> first | (exfalso; omega; done) | exact absurd True.intro hb | ((conv => whnf); try simp only [gO, gWe, ne_eq, Nat.reduceEqDiff, not_false_eq_true, true_or, or_true, true_and])) | fail)
        obtain ⟨d, rfl⟩ := gD (show 1 ≤ d by omega)
        refine gC 300 [] rfl ?_
        (conv => whnf); try simp only [gO, gWe, ne_eq, Nat.reduceEqDiff, not_false_eq_true, true_or, or_true, true_and]
        repeat' (first | exact True.intro | (refine ⟨fun hb => ?_, fun hb => ?_⟩ <;> first | (exfalso; omega; done) | exact absurd True.intro hb | ((conv => whnf); try simp only [gO, gWe, ne_eq, Nat.reduceEqDiff, not_false_eq_true, true_or, or_true, true_and])) | (refine ⟨by omega, ?_⟩; (conv => whnf); try simp only [gO, gWe, ne_eq, Nat.reduceEqDiff, not_false_eq_true, true_or, or_true, true_and]) | (refine ⟨fun hb => ?_, ?_⟩ <;> first | (exfalso; omega; done) | exact absurd True.intro hb | ((conv => whnf); try simp only [gO, gWe, ne_eq, Nat.reduceEqDiff, not_false_eq_true, true_or, or_true, true_and])) | fail)
        refine t_5 (by omega) hG i0 (by omega) lv ?_
        (conv => whnf); try simp only [gO, gWe, ne_eq, Nat.reduceEqDiff, not_false_eq_true, true_or, or_true, true_and]
        repeat' (first | exact True.intro | (refine ⟨fun hb => ?_, fun hb => ?_⟩ <;> first | (exfalso; omega; done) | exact absurd True.intro hb | ((conv => whnf); try simp only [gO, gWe, ne_eq, Nat.reduceEqDiff, not_false_eq_true, true_or, or_true, true_and])) | (refine ⟨by omega, ?_⟩; (conv => whnf); try simp only [gO, gWe, ne_eq, Nat.reduceEqDiff, not_false_eq_true, true_or, or_true, true_and]) | (refine ⟨fun hb => ?_, ?_⟩ <;> first | (exfalso; omega; done) | exact absurd True.intro hb | ((conv => whnf); try simp only [gO, gWe, ne_eq, Nat.reduceEqDiff, not_false_eq_true, true_or, or_true, true_and])) | fail)
        exact i2
      · rw [if_neg c] at ih
        have i2 := ih x
        clear ih
        refine gB_gG [30] 300 ?_
        (conv => whnf); try simp only [gO, gWe, ne_eq, Nat.reduceEqDiff, not_false_eq_true, true_or, or_true, true_and]
        repeat' (first | exact True.intro | (refine ⟨fun hb => ?_, fun hb => ?_⟩ <;> first | (exfalso; omega; done) | exact absurd True.intro hb | ((conv => whnf); try simp only [gO, gWe, ne_eq, Nat.reduceEqDiff, not_false_eq_true, true_or, or_true, true_and])) | (refine ⟨by omega, ?_⟩; (conv => whnf); try simp only [gO, gWe, ne_eq, Nat.reduceEqDiff, not_false_eq_true, true_or, or_true, true_and]) | (refine ⟨fun hb => ?_, ?_⟩ <;> first | (exfalso; omega; done) | exact absurd True.intro hb | ((conv => whnf); try simp only [gO, gWe, ne_eq, Nat.reduceEqDiff, not_false_eq_true, true_or, or_true, true_and])) | fail)
        exact i2
    · clear fb
      refine gB_gG [30] 300 ?_
      (conv => whnf); try simp only [gO, gWe, ne_eq, Nat.reduceEqDiff, not_false_eq_true, true_or, or_true, true_and]
      repeat' (first | exact True.intro | (refine ⟨fun hb => ?_, fun hb => ?_⟩ <;> first | (exfalso; omega; done) | exact absurd True.intro hb | ((conv => whnf); try simp only [gO, gWe, ne_eq, Nat.reduceEqDiff, not_false_eq_true, true_or, or_true, true_and])) | (refine ⟨by omega, ?_⟩; (conv => whnf); try simp only [gO, gWe, ne_eq, Nat.reduceEqDiff, not_false_eq_true, true_or, or_true, true_and]) | (refine ⟨fun hb => ?_, ?_⟩ <;> first | (exfalso; omega; done) | exact absurd True.intro hb | ((conv => whnf); try simp only [gO, gWe, ne_eq, Nat.reduceEqDiff, not_false_eq_true, true_or, or_true, true_and])) | fail)
      exact h
  exact key 0 (by omega) (by omega) _
theorem t_10_3 {D : Nat} (hD : 4 ≤ D) {μ : MU} {Q : GQ} {g : Int} (hG : iG μ) (hL : iL μ) (hN : iN μ) (hX : hLB μ) (h : Q (some (gI (hMg2 (if (3 : Int) = 1 then xRt μ else (μ 13)) (μ 3) g (μ 1 0).toNat))) g_SH μ) : gCall g_T g_F sN sX D 10 [gR 33, gI g, gI 3] g_SH μ Q := by
  have G := hG.1
  have V := hN.1
  have fb : ∀ i : Int, 0 ≤ i → i < (μ 1 0) → 0 ≤ (if (3 : Int) = 1 then xRt μ else (μ 13)) i ∧ (if (3 : Int) = 1 then xRt μ else (μ 13)) i ≤ 2000 := fun i i0 i1 => by
    have a := xRt_b hG hX i0 (show i < (μ 19 2) by omega)
    have b := hL.2.2.1 i i0 i1
    have c := hL.2.2.2.1
    by_cases d : (3 : Int) = 1
    · rw [if_pos d]; omega
    · rw [if_neg d]; omega
  obtain ⟨d, rfl⟩ := gD (show 1 ≤ D by omega)
  refine gC 300 [30] rfl ?_
  (conv => whnf); try simp only [gO, gWe, ne_eq, Nat.reduceEqDiff, not_false_eq_true, true_or, or_true, true_and]
  repeat' (first | exact True.intro | (refine ⟨fun hb => ?_, fun hb => ?_⟩ <;> first | (exfalso; omega; done) | exact absurd True.intro hb | ((conv => whnf); try simp only [gO, gWe, ne_eq, Nat.reduceEqDiff, not_false_eq_true, true_or, or_true, true_and])) | (refine ⟨by omega, ?_⟩; (conv => whnf); try simp only [gO, gWe, ne_eq, Nat.reduceEqDiff, not_false_eq_true, true_or, or_true, true_and]) | (refine ⟨fun hb => ?_, ?_⟩ <;> first | (exfalso; omega; done) | exact absurd True.intro hb | ((conv => whnf); try simp only [gO, gWe, ne_eq, Nat.reduceEqDiff, not_false_eq_true, true_or, or_true, true_and])) | fail)
  have key : ∀ i : Int, 0 ≤ i → i ≤ (μ 1 0) → ∀ x : GV, gG g_T g_F (gCall g_T g_F sN sX d) sN sX (g_T 10) Q 30 [gR 33, gI g, gI 3, gI 0, gI (hMg2 (if (3 : Int) = 1 then xRt μ else (μ 13)) (μ 3) g i.toNat), gI i, x] [] g_SH μ 0 0 := by
    refine g_up (fun i i0 i1 ih x => ?_) (fun x => ?_)
    · have b := (hMn_b (f := if (3 : Int) = 1 then xRt μ else (μ 13)) (p := (μ 3)) (g := g) (n := (μ 1 0).toNat) (fun i i0 i1 => fb i i0 (by omega)) i.toNat (by omega)).2
      have v := fb i i0 i1
      rw [show (i + 1).toNat = i.toNat + 1 by omega] at ih
      unfold hMg2 at ih
      rw [show ((i.toNat : Nat) : Int) = i by omega] at ih
      generalize hMg2 (if (3 : Int) = 1 then xRt μ else (μ 13)) (μ 3) g i.toNat = m at *
      clear fb
      have lv := hX i i0 (by omega)
      by_cases c : (μ 3) i = g
      · rw [if_pos c] at ih
        have i2 := ih (gI ((if (3 : Int) = 1 then xRt μ else (μ 13)) i))
        clear ih
        refine gB_gG [30] 300 ?_
        (conv => whnf); try simp only [gO, gWe, ne_eq, Nat.reduceEqDiff, not_false_eq_true, true_or, or_true, true_and]
        repeat' (first | exact True.intro | (refine ⟨fun hb => ?_, fun hb => ?_⟩ <;> first | (exfalso; omega; done) | exact absurd True.intro hb | ((conv => whnf); try simp only [gO, gWe, ne_eq, Nat.reduceEqDiff, not_false_eq_true, true_or, or_true, true_and])) | (refine ⟨by omega, ?_⟩; (conv => whnf); try simp only [gO, gWe, ne_eq, Nat.reduceEqDiff, not_false_eq_true, true_or, or_true, true_and]) | (refine ⟨fun hb => ?_, ?_⟩ <;> first | (exfalso; omega; done) | exact absurd True.intro hb | ((conv => whnf); try simp only [gO, gWe, ne_eq, Nat.reduceEqDiff, not_false_eq_true, true_or, or_true, true_and])) | fail)
        obtain ⟨d, rfl⟩ := gD (show 1 ≤ d by omega)
        refine gC 300 [] rfl ?_
        (conv => whnf); try simp only [gO, gWe, ne_eq, Nat.reduceEqDiff, not_false_eq_true, true_or, or_true, true_and]
        repeat' (first | exact True.intro | (refine ⟨fun hb => ?_, fun hb => ?_⟩ <;> first | (exfalso; omega; done) | exact absurd True.intro hb | ((conv => whnf); try simp only [gO, gWe, ne_eq, Nat.reduceEqDiff, not_false_eq_true, true_or, or_true, true_and])) | (refine ⟨by omega, ?_⟩; (conv => whnf); try simp only [gO, gWe, ne_eq, Nat.reduceEqDiff, not_false_eq_true, true_or, or_true, true_and]) | (refine ⟨fun hb => ?_, ?_⟩ <;> first | (exfalso; omega; done) | exact absurd True.intro hb | ((conv => whnf); try simp only [gO, gWe, ne_eq, Nat.reduceEqDiff, not_false_eq_true, true_or, or_true, true_and])) | fail)
        exact i2
      · rw [if_neg c] at ih
        have i2 := ih x
        clear ih
        refine gB_gG [30] 300 ?_
        (conv => whnf); try simp only [gO, gWe, ne_eq, Nat.reduceEqDiff, not_false_eq_true, true_or, or_true, true_and]
        repeat' (first | exact True.intro | (refine ⟨fun hb => ?_, fun hb => ?_⟩ <;> first | (exfalso; omega; done) | exact absurd True.intro hb | ((conv => whnf); try simp only [gO, gWe, ne_eq, Nat.reduceEqDiff, not_false_eq_true, true_or, or_true, true_and])) | (refine ⟨by omega, ?_⟩; (conv => whnf); try simp only [gO, gWe, ne_eq, Nat.reduceEqDiff, not_false_eq_true, true_or, or_true, true_and]) | (refine ⟨fun hb => ?_, ?_⟩ <;> first | (exfalso; omega; done) | exact absurd True.intro hb | ((conv => whnf); try simp only [gO, gWe, ne_eq, Nat.reduceEqDiff, not_false_eq_true, true_or, or_true, true_and])) | fail)
        exact i2
    · clear fb
      refine gB_gG [30] 300 ?_
      (conv => whnf); try simp only [gO, gWe, ne_eq, Nat.reduceEqDiff, not_false_eq_true, true_or, or_true, true_and]
      repeat' (first | exact True.intro | (refine ⟨fun hb => ?_, fun hb => ?_⟩ <;> first | (exfalso; omega; done) | exact absurd True.intro hb | ((conv => whnf); try simp only [gO, gWe, ne_eq, Nat.reduceEqDiff, not_false_eq_true, true_or, or_true, true_and])) | (refine ⟨by omega, ?_⟩; (conv => whnf); try simp only [gO, gWe, ne_eq, Nat.reduceEqDiff, not_false_eq_true, true_or, or_true, true_and]) | (refine ⟨fun hb => ?_, ?_⟩ <;> first | (exfalso; omega; done) | exact absurd True.intro hb | ((conv => whnf); try simp only [gO, gWe, ne_eq, Nat.reduceEqDiff, not_false_eq_true, true_or, or_true, true_and])) | fail)
      exact h
  exact key 0 (by omega) (by omega) _
