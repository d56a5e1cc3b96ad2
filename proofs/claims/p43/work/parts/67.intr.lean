variable {sN : Int} {sX : Int → Int}
/-! the case intruders -/
def xIn (ly lf rt gr : Int → Int) (F0 F1 F2 F3 g : Int) (n : Nat) : Int := gSum (fun i => if (F2 ≤ ly i ∧ ly i ≤ F3 ∧ lf i < F1 ∧ F0 < rt i) ∧ gr i ≠ g then 1 else 0) n
theorem xIn_s {ly lf rt gr : Int → Int} {F0 F1 F2 F3 g i : Int} (i0 : 0 ≤ i) : xIn ly lf rt gr F0 F1 F2 F3 g (i + 1).toNat = xIn ly lf rt gr F0 F1 F2 F3 g i.toNat + if (F2 ≤ ly i ∧ ly i ≤ F3 ∧ lf i < F1 ∧ F0 < rt i) ∧ gr i ≠ g then 1 else 0 := gSum_s _ i i0
theorem xIn_b {ly lf rt gr : Int → Int} {F0 F1 F2 F3 g : Int} (n : Nat) : 0 ≤ xIn ly lf rt gr F0 F1 F2 F3 g n ∧ xIn ly lf rt gr F0 F1 F2 F3 g n ≤ n := by
  have := gSum_b (f := fun i => if (F2 ≤ ly i ∧ ly i ≤ F3 ∧ lf i < F1 ∧ F0 < rt i) ∧ gr i ≠ g then (1 : Int) else 0) (a := 0) (b := 1) n (fun i _ _ => by
    show (0 : Int) ≤ (if _ then 1 else 0) ∧ (if _ then (1 : Int) else 0) ≤ 1
    split <;> omega)
  unfold xIn
  omega
def xInt (μ : MU) (g : Int) : Int := xIn (μ 13) (μ 34) (xRt μ) (μ 3) (hMn (μ 34) (μ 3) g (μ 1 0).toNat) (hMg2 (xRt μ) (μ 3) g (μ 1 0).toNat) (hMn (μ 13) (μ 3) g (μ 1 0).toNat) (hMg2 (μ 13) (μ 3) g (μ 1 0).toNat) g (μ 1 0).toNat
theorem t_12 {D : Nat} (hD : 5 ≤ D) {μ : MU} {Q : GQ} {g : Int} (hG : iG μ) (hL : iL μ) (hN : iN μ) (hX : hLB μ) (h : Q (some (gI (xInt μ g))) g_SH μ) : gCall g_T g_F sN sX D 12 [gR 33, gI g] g_SH μ Q := by
  have G := hG.1
  have V := hN.1
  unfold xInt at h
  have e0 : hMn (if (0 : Int) = 0 then (μ 34) else (μ 13)) (μ 3) g (μ 1 0).toNat = hMn (μ 34) (μ 3) g (μ 1 0).toNat := rfl
  have e1 : hMg2 (if (1 : Int) = 1 then xRt μ else (μ 13)) (μ 3) g (μ 1 0).toNat = hMg2 (xRt μ) (μ 3) g (μ 1 0).toNat := rfl
  have e2 : hMn (if (2 : Int) = 0 then (μ 34) else (μ 13)) (μ 3) g (μ 1 0).toNat = hMn (μ 13) (μ 3) g (μ 1 0).toNat := rfl
  have e3 : hMg2 (if (3 : Int) = 1 then xRt μ else (μ 13)) (μ 3) g (μ 1 0).toNat = hMg2 (μ 13) (μ 3) g (μ 1 0).toNat := rfl
  obtain ⟨d, rfl⟩ := gD (show 1 ≤ D by omega)
  refine gC 300 [36] rfl ?_
  (conv => whnf); try simp only [gO, gWe, ne_eq, Nat.reduceEqDiff, not_false_eq_true, true_or, or_true, true_and]
  refine t_10_0 (by omega) hG hL hN hX ?_
  rw [e0]
  (conv => whnf); try simp only [gO, gWe, ne_eq, Nat.reduceEqDiff, not_false_eq_true, true_or, or_true, true_and]
  repeat' (first | exact True.intro | (refine ⟨fun hb => ?_, fun hb => ?_⟩ <;> first | (exfalso; omega; done) | exact absurd True.intro hb | ((conv => whnf); try simp only [gO, gWe, ne_eq, Nat.reduceEqDiff, not_false_eq_true, true_or, or_true, true_and])) | (refine ⟨by omega, ?_⟩; (conv => whnf); try simp only [gO, gWe, ne_eq, Nat.reduceEqDiff, not_false_eq_true, true_or, or_true, true_and]) | (refine ⟨fun hb => ?_, ?_⟩ <;> first | (exfalso; omega; done) | exact absurd True.intro hb | ((conv => whnf); try simp only [gO, gWe, ne_eq, Nat.reduceEqDiff, not_false_eq_true, true_or, or_true, true_and])) | fail)
  refine t_10_1 (by omega) hG hL hN hX ?_
  rw [e1]
  (conv => whnf); try simp only [gO, gWe, ne_eq, Nat.reduceEqDiff, not_false_eq_true, true_or, or_true, true_and]
  repeat' (first | exact True.intro | (refine ⟨fun hb => ?_, fun hb => ?_⟩ <;> first | (exfalso; omega; done) | exact absurd True.intro hb | ((conv => whnf); try simp only [gO, gWe, ne_eq, Nat.reduceEqDiff, not_false_eq_true, true_or, or_true, true_and])) | (refine ⟨by omega, ?_⟩; (conv => whnf); try simp only [gO, gWe, ne_eq, Nat.reduceEqDiff, not_false_eq_true, true_or, or_true, true_and]) | (refine ⟨fun hb => ?_, ?_⟩ <;> first | (exfalso; omega; done) | exact absurd True.intro hb | ((conv => whnf); try simp only [gO, gWe, ne_eq, Nat.reduceEqDiff, not_false_eq_true, true_or, or_true, true_and])) | fail)
  refine t_10_2 (by omega) hG hL hN hX ?_
  rw [e2]
  (conv => whnf); try simp only [gO, gWe, ne_eq, Nat.reduceEqDiff, not_false_eq_true, true_or, or_true, true_and]
  repeat' (first | exact True.intro | (refine ⟨fun hb => ?_, fun hb => ?_⟩ <;> first | (exfalso; omega; done) | exact absurd True.intro hb | ((conv => whnf); try simp only [gO, gWe, ne_eq, Nat.reduceEqDiff, not_false_eq_true, true_or, or_true, true_and])) | (refine ⟨by omega, ?_⟩; (conv => whnf); try simp only [gO, gWe, ne_eq, Nat.reduceEqDiff, not_false_eq_true, true_or, or_true, true_and]) | (refine ⟨fun hb => ?_, ?_⟩ <;> first | (exfalso; omega; done) | exact absurd True.intro hb | ((conv => whnf); try simp only [gO, gWe, ne_eq, Nat.reduceEqDiff, not_false_eq_true, true_or, or_true, true_and])) | fail)
  refine t_10_3 (by omega) hG hL hN hX ?_
  rw [e3]
  (conv => whnf); try simp only [gO, gWe, ne_eq, Nat.reduceEqDiff, not_false_eq_true, true_or, or_true, true_and]
  repeat' (first | exact True.intro | (refine ⟨fun hb => ?_, fun hb => ?_⟩ <;> first | (exfalso; omega; done) | exact absurd True.intro hb | ((conv => whnf); try simp only [gO, gWe, ne_eq, Nat.reduceEqDiff, not_false_eq_true, true_or, or_true, true_and])) | (refine ⟨by omega, ?_⟩; (conv => whnf); try simp only [gO, gWe, ne_eq, Nat.reduceEqDiff, not_false_eq_true, true_or, or_true, true_and]) | (refine ⟨fun hb => ?_, ?_⟩ <;> first | (exfalso; omega; done) | exact absurd True.intro hb | ((conv => whnf); try simp only [gO, gWe, ne_eq, Nat.reduceEqDiff, not_false_eq_true, true_or, or_true, true_and])) | fail)
  clear e0 e1 e2 e3
  generalize hMn (μ 34) (μ 3) g (μ 1 0).toNat = F0 at *
  generalize hMg2 (xRt μ) (μ 3) g (μ 1 0).toNat = F1 at *
  generalize hMn (μ 13) (μ 3) g (μ 1 0).toNat = F2 at *
  generalize hMg2 (μ 13) (μ 3) g (μ 1 0).toNat = F3 at *
  have key : ∀ i : Int, 0 ≤ i → i ≤ (μ 1 0) → ∀ x y : GV, gG g_T g_F (gCall g_T g_F sN sX d) sN sX (g_T 12) Q 36 [gR 33, gI g, gI F0, gI F1, gI F2, gI F3, gI (xIn (μ 13) (μ 34) (xRt μ) (μ 3) F0 F1 F2 F3 g i.toNat), gI i, x, y] [] g_SH μ 0 0 := by
    refine g_up (fun i i0 i1 ih x y => ?_) (fun x y => ?_)
    · have lv := hX i i0 (by omega)
      have b := xIn_b (ly := (μ 13)) (lf := (μ 34)) (rt := xRt μ) (gr := (μ 3)) (F0 := F0) (F1 := F1) (F2 := F2) (F3 := F3) (g := g) i.toNat
      rw [xIn_s i0] at ih
      generalize xIn (μ 13) (μ 34) (xRt μ) (μ 3) F0 F1 F2 F3 g i.toNat = m at *
      have no : ¬ ((F2 ≤ (μ 13) i ∧ (μ 13) i ≤ F3 ∧ (μ 34) i < F1 ∧ F0 < xRt μ i) ∧ (μ 3) i ≠ g) → ∀ x y : GV, gG g_T g_F (gCall g_T g_F sN sX d) sN sX (g_T 12) Q 36 [gR 33, gI g, gI F0, gI F1, gI F2, gI F3, gI m, gI (i + 1), x, y] [] g_SH μ 0 0 := fun hh x y => by
        have j := ih x y
        rw [if_neg hh, Int.add_zero] at j
        exact j
      by_cases c1 : F2 ≤ (μ 13) i
      · by_cases c2 : (μ 13) i ≤ F3
        · by_cases c3 : (μ 34) i < F1
          · by_cases c4 : F0 < xRt μ i
            · by_cases c5 : (μ 3) i = g
              · have j := no (fun hh => hh.2 c5)
                clear no ih
                refine gB_gG [36] 300 ?_
                (conv => whnf); try simp only [gO, gWe, ne_eq, Nat.reduceEqDiff, not_false_eq_true, true_or, or_true, true_and]
                repeat' (first | exact True.intro | (refine ⟨fun hb => ?_, fun hb => ?_⟩ <;> first | (exfalso; omega; done) | exact absurd True.intro hb | ((conv => whnf); try simp only [gO, gWe, ne_eq, Nat.reduceEqDiff, not_false_eq_true, true_or, or_true, true_and])) | (refine ⟨by omega, ?_⟩; (conv => whnf); try simp only [gO, gWe, ne_eq, Nat.reduceEqDiff, not_false_eq_true, true_or, or_true, true_and]) | (refine ⟨fun hb => ?_, ?_⟩ <;> first | (exfalso; omega; done) | exact absurd True.intro hb | ((conv => whnf); try simp only [gO, gWe, ne_eq, Nat.reduceEqDiff, not_false_eq_true, true_or, or_true, true_and])) | fail)
                refine t_5 (by omega) hG i0 (by omega) lv ?_
                (conv => whnf); try simp only [gO, gWe, ne_eq, Nat.reduceEqDiff, not_false_eq_true, true_or, or_true, true_and]
                repeat' (first | exact True.intro | (refine ⟨fun hb => ?_, fun hb => ?_⟩ <;> first | (exfalso; omega; done) | exact absurd True.intro hb | ((conv => whnf); try simp only [gO, gWe, ne_eq, Nat.reduceEqDiff, not_false_eq_true, true_or, or_true, true_and])) | (refine ⟨by omega, ?_⟩; (conv => whnf); try simp only [gO, gWe, ne_eq, Nat.reduceEqDiff, not_false_eq_true, true_or, or_true, true_and]) | (refine ⟨fun hb => ?_, ?_⟩ <;> first | (exfalso; omega; done) | exact absurd True.intro hb | ((conv => whnf); try simp only [gO, gWe, ne_eq, Nat.reduceEqDiff, not_false_eq_true, true_or, or_true, true_and])) | fail)
                exact j _ _
              · have j : ∀ x y : GV, gG g_T g_F (gCall g_T g_F sN sX d) sN sX (g_T 12) Q 36 [gR 33, gI g, gI F0, gI F1, gI F2, gI F3, gI (m + 1), gI (i + 1), x, y] [] g_SH μ 0 0 := fun x y => by
                  have j := ih x y
                  rw [if_pos ⟨⟨c1, c2, c3, c4⟩, c5⟩] at j
                  exact j
                clear no ih
                refine gB_gG [36] 300 ?_
                (conv => whnf); try simp only [gO, gWe, ne_eq, Nat.reduceEqDiff, not_false_eq_true, true_or, or_true, true_and]
                repeat' (first | exact True.intro | (refine ⟨fun hb => ?_, fun hb => ?_⟩ <;> first | (exfalso; omega; done) | exact absurd True.intro hb | ((conv => whnf); try simp only [gO, gWe, ne_eq, Nat.reduceEqDiff, not_false_eq_true, true_or, or_true, true_and])) | (refine ⟨by omega, ?_⟩; (conv => whnf); try simp only [gO, gWe, ne_eq, Nat.reduceEqDiff, not_false_eq_true, true_or, or_true, true_and]) | (refine ⟨fun hb => ?_, ?_⟩ <;> first | (exfalso; omega; done) | exact absurd True.intro hb | ((conv => whnf); try simp only [gO, gWe, ne_eq, Nat.reduceEqDiff, not_false_eq_true, true_or, or_true, true_and])) | fail)
                refine t_5 (by omega) hG i0 (by omega) lv ?_
                (conv => whnf); try simp only [gO, gWe, ne_eq, Nat.reduceEqDiff, not_false_eq_true, true_or, or_true, true_and]
                repeat' (first | exact True.intro | (refine ⟨fun hb => ?_, fun hb => ?_⟩ <;> first | (exfalso; omega; done) | exact absurd True.intro hb | ((conv => whnf); try simp only [gO, gWe, ne_eq, Nat.reduceEqDiff, not_false_eq_true, true_or, or_true, true_and])) | (refine ⟨by omega, ?_⟩; (conv => whnf); try simp only [gO, gWe, ne_eq, Nat.reduceEqDiff, not_false_eq_true, true_or, or_true, true_and]) | (refine ⟨fun hb => ?_, ?_⟩ <;> first | (exfalso; omega; done) | exact absurd True.intro hb | ((conv => whnf); try simp only [gO, gWe, ne_eq, Nat.reduceEqDiff, not_false_eq_true, true_or, or_true, true_and])) | fail)
                exact j _ _
            · have j := no (fun hh => c4 hh.1.2.2.2)
              clear no ih
              refine gB_gG [36] 300 ?_
              (conv => whnf); try simp only [gO, gWe, ne_eq, Nat.reduceEqDiff, not_false_eq_true, true_or, or_true, true_and]
              repeat' (first | exact True.intro | (refine ⟨fun hb => ?_, fun hb => ?_⟩ <;> first | (exfalso; omega; done) | exact absurd True.intro hb | ((conv => whnf); try simp only [gO, gWe, ne_eq, Nat.reduceEqDiff, not_false_eq_true, true_or, or_true, true_and])) | (refine ⟨by omega, ?_⟩; (conv => whnf); try simp only [gO, gWe, ne_eq, Nat.reduceEqDiff, not_false_eq_true, true_or, or_true, true_and]) | (refine ⟨fun hb => ?_, ?_⟩ <;> first | (exfalso; omega; done) | exact absurd True.intro hb | ((conv => whnf); try simp only [gO, gWe, ne_eq, Nat.reduceEqDiff, not_false_eq_true, true_or, or_true, true_and])) | fail)
              refine t_5 (by omega) hG i0 (by omega) lv ?_
              (conv => whnf); try simp only [gO, gWe, ne_eq, Nat.reduceEqDiff, not_false_eq_true, true_or, or_true, true_and]
              repeat' (first | exact True.intro | (refine ⟨fun hb => ?_, fun hb => ?_⟩ <;> first | (exfalso; omega; done) | exact absurd True.intro hb | ((conv => whnf); try simp only [gO, gWe, ne_eq, Nat.reduceEqDiff, not_false_eq_true, true_or, or_true, true_and])) | (refine ⟨by omega, ?_⟩; (conv => whnf); try simp only [gO, gWe, ne_eq, Nat.reduceEqDiff, not_false_eq_true, true_or, or_true, true_and]) | (refine ⟨fun hb => ?_, ?_⟩ <;> first | (exfalso; omega; done) | exact absurd True.intro hb | ((conv => whnf); try simp only [gO, gWe, ne_eq, Nat.reduceEqDiff, not_false_eq_true, true_or, or_true, true_and])) | fail)
              exact j _ _
          · have j := no (fun hh => c3 hh.1.2.2.1)
            clear no ih
            refine gB_gG [36] 300 ?_
            (conv => whnf); try simp only [gO, gWe, ne_eq, Nat.reduceEqDiff, not_false_eq_true, true_or, or_true, true_and]
            repeat' (first | exact True.intro | (refine ⟨fun hb => ?_, fun hb => ?_⟩ <;> first | (exfalso; omega; done) | exact absurd True.intro hb | ((conv => whnf); try simp only [gO, gWe, ne_eq, Nat.reduceEqDiff, not_false_eq_true, true_or, or_true, true_and])) | (refine ⟨by omega, ?_⟩; (conv => whnf); try simp only [gO, gWe, ne_eq, Nat.reduceEqDiff, not_false_eq_true, true_or, or_true, true_and]) | (refine ⟨fun hb => ?_, ?_⟩ <;> first | (exfalso; omega; done) | exact absurd True.intro hb | ((conv => whnf); try simp only [gO, gWe, ne_eq, Nat.reduceEqDiff, not_false_eq_true, true_or, or_true, true_and])) | fail)
            exact j _ _
        · have j := no (fun hh => c2 hh.1.2.1)
          clear no ih
          refine gB_gG [36] 300 ?_
          (conv => whnf); try simp only [gO, gWe, ne_eq, Nat.reduceEqDiff, not_false_eq_true, true_or, or_true, true_and]
          repeat' (first | exact True.intro | (refine ⟨fun hb => ?_, fun hb => ?_⟩ <;> first | (exfalso; omega; done) | exact absurd True.intro hb | ((conv => whnf); try simp only [gO, gWe, ne_eq, Nat.reduceEqDiff, not_false_eq_true, true_or, or_true, true_and])) | (refine ⟨by omega, ?_⟩; (conv => whnf); try simp only [gO, gWe, ne_eq, Nat.reduceEqDiff, not_false_eq_true, true_or, or_true, true_and]) | (refine ⟨fun hb => ?_, ?_⟩ <;> first | (exfalso; omega; done) | exact absurd True.intro hb | ((conv => whnf); try simp only [gO, gWe, ne_eq, Nat.reduceEqDiff, not_false_eq_true, true_or, or_true, true_and])) | fail)
          exact j _ _
      · have j := no (fun hh => c1 hh.1.1)
        clear no ih
        refine gB_gG [36] 300 ?_
        (conv => whnf); try simp only [gO, gWe, ne_eq, Nat.reduceEqDiff, not_false_eq_true, true_or, or_true, true_and]
        repeat' (first | exact True.intro | (refine ⟨fun hb => ?_, fun hb => ?_⟩ <;> first | (exfalso; omega; done) | exact absurd True.intro hb | ((conv => whnf); try simp only [gO, gWe, ne_eq, Nat.reduceEqDiff, not_false_eq_true, true_or, or_true, true_and])) | (refine ⟨by omega, ?_⟩; (conv => whnf); try simp only [gO, gWe, ne_eq, Nat.reduceEqDiff, not_false_eq_true, true_or, or_true, true_and]) | (refine ⟨fun hb => ?_, ?_⟩ <;> first | (exfalso; omega; done) | exact absurd True.intro hb | ((conv => whnf); try simp only [gO, gWe, ne_eq, Nat.reduceEqDiff, not_false_eq_true, true_or, or_true, true_and])) | fail)
        exact j _ _
    · refine gB_gG [36] 300 ?_
      (conv => whnf); try simp only [gO, gWe, ne_eq, Nat.reduceEqDiff, not_false_eq_true, true_or, or_true, true_and]
      repeat' (first | exact True.intro | (refine ⟨fun hb => ?_, fun hb => ?_⟩ <;> first | (exfalso; omega; done) | exact absurd True.intro hb | ((conv => whnf); try simp only [gO, gWe, ne_eq, Nat.reduceEqDiff, not_false_eq_true, true_or, or_true, true_and])) | (refine ⟨by omega, ?_⟩; (conv => whnf); try simp only [gO, gWe, ne_eq, Nat.reduceEqDiff, not_false_eq_true, true_or, or_true, true_and]) | (refine ⟨fun hb => ?_, ?_⟩ <;> first | (exfalso; omega; done) | exact absurd True.intro hb | ((conv => whnf); try simp only [gO, gWe, ne_eq, Nat.reduceEqDiff, not_false_eq_true, true_or, or_true, true_and])) | fail)
      exact h
  exact key 0 (by omega) (by omega) _ _
