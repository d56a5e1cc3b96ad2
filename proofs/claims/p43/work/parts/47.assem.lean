variable {sN : Int} {sX : Int → Int}
/-! a case of the law: the class answers, the model answers the same, and all is as before -/
theorem iD_c {μ ν : MU} (h : hSt μ ν) (h1 : ν 24 = μ 24) (h2 : ν 25 = μ 25) (h3 : ν 34 = μ 34) (x : iD μ) : iD ν := by
  obtain ⟨a, b, c, d⟩ := x
  refine ⟨iN_c h a, by rw [h1, h2]; exact iO_c h b, fun y y0 y1 => ?_, fun v v0 v1 => ?_⟩
  · rw [h 9 (by decide) (by decide)] at y1
    rw [h1]; exact iC_c h (c y y0 y1)
  · rw [h 19 (by decide) (by decide)] at v1
    rw [h3]; exact d v v0 v1
theorem iA_c {μ ν : MU} (h : hSt μ ν) (h0 : ν 0 6 = μ 0 6) (h1 : ν 24 = μ 24) (h2 : ν 25 = μ 25) (h3 : ν 34 = μ 34) (x : iA μ) : iA ν := by
  obtain ⟨a, b, c, d⟩ := x
  refine ⟨iG_c h a, iL_c h b, by rw [h0]; exact c, fun hl => iD_c h h1 h2 h3 (d (by rw [← h0]; exact hl))⟩
theorem t_44 {D : Nat} (hD : 1 ≤ D) {μ : MU} {Q : GQ} {y p : Int} (hL : iL μ) (y0 : 0 ≤ y) (y1 : y < (μ 9 1)) (hs : 0 ≤ (μ 23) y ∧ (μ 23) y ≤ 60) (p0 : 0 ≤ (μ 23) y + p) (p1 : (μ 23) y + p < 60) (h : Q (some (gI ((μ 24) ((μ 23) y + p)))) g_SH μ) : gCall g_T g_F sN sX D 44 [gR 19, gI y, gI p] g_SH μ Q := by
  have L := hL.2.2.2.1
  obtain ⟨d, rfl⟩ := gD (show 1 ≤ D by omega)
  refine gC 300 [] rfl ?_
  (conv => whnf); try simp only [gO, gWe, ne_eq, Nat.reduceEqDiff, not_false_eq_true, true_or, or_true, true_and]
  repeat' (first | exact True.intro | (refine ⟨fun hb => ?_, fun hb => ?_⟩ <;> first | (exfalso; omega; done) | exact absurd True.intro hb | ((conv => whnf); try simp only [gO, gWe, ne_eq, Nat.reduceEqDiff, not_false_eq_true, true_or, or_true, true_and])) | (refine ⟨by omega, ?_⟩; (conv => whnf); try simp only [gO, gWe, ne_eq, Nat.reduceEqDiff, not_false_eq_true, true_or, or_true, true_and]) | (refine ⟨fun hb => ?_, ?_⟩ <;> first | (exfalso; omega; done) | exact absurd True.intro hb | ((conv => whnf); try simp only [gO, gWe, ne_eq, Nat.reduceEqDiff, not_false_eq_true, true_or, or_true, true_and])) | fail)
  exact h
theorem g_div {a b : Int} (h0 : 0 ≤ a) (h1 : a < 2147483648) (h2 : 0 < b) (h3 : b < 2147483648) : gDiv a b = a / b := by
  have ha : (Int32.ofInt a).toInt = a := g_toInt ⟨by omega, h1⟩
  have hb : (Int32.ofInt b).toInt = b := g_toInt ⟨by omega, h3⟩
  show (Int32.ofInt a / Int32.ofInt b).toInt = a / b
  rw [Int32.toInt_div, ha, hb, Int.tdiv_eq_ediv_of_nonneg h0]
  have := Int.ediv_le_self b h0
  have := Int.ediv_nonneg h0 (Int.le_of_lt h2)
  exact Int.bmod_eq_of_le (by omega) (by omega)
/-- the vertex with this name -/
theorem t_38 {D : Nat} (hD : 2 ≤ D) {μ : MU} {Q : GQ} {a : Int} (ha : gOk a) (hG : iG μ) (hL : iL μ) (hN : iN μ) (k1 : ∀ v : Int, 0 ≤ v → v < (μ 19 2) → (μ 20) v = a → Q (some (gI (v))) g_SH μ) (k0 : (∀ v : Int, 0 ≤ v → v < (μ 19 2) → (μ 20) v ≠ a) → Q (some (gI (-1))) g_SH μ) : gCall g_T g_F sN sX D 38 [gR 19, gI a] g_SH μ Q := by
  have G := hG.1
  have V := hN.1
  unfold gOk at ha
  have nd : ∀ v : Int, 0 ≤ v → v < (μ 1 0) → (μ 20) v = v := fun v v0 v1 => (hN.2.2.2.1 v v0 v1).1
  by_cases h1 : a < 100
  · by_cases h2 : 0 ≤ a ∧ a < (μ 1 0)
    · have fin := k1 a h2.1 (by omega) (nd a h2.1 h2.2)
      obtain ⟨d, rfl⟩ := gD (show 1 ≤ D by omega)
      refine gC 300 [] rfl ?_
      (conv => whnf); try simp only [gO, gWe, ne_eq, Nat.reduceEqDiff, not_false_eq_true, true_or, or_true, true_and]
      repeat' (first | exact True.intro | (refine ⟨fun hb => ?_, fun hb => ?_⟩ <;> first | (exfalso; omega; done) | exact absurd True.intro hb | ((conv => whnf); try simp only [gO, gWe, ne_eq, Nat.reduceEqDiff, not_false_eq_true, true_or, or_true, true_and])) | (refine ⟨by omega, ?_⟩; (conv => whnf); try simp only [gO, gWe, ne_eq, Nat.reduceEqDiff, not_false_eq_true, true_or, or_true, true_and]) | (refine ⟨fun hb => ?_, ?_⟩ <;> first | (exfalso; omega; done) | exact absurd True.intro hb | ((conv => whnf); try simp only [gO, gWe, ne_eq, Nat.reduceEqDiff, not_false_eq_true, true_or, or_true, true_and])) | fail)
      exact fin
    · have fin := k0 (fun v v0 v1 hv => by
        rcases iN_two hG hL hN v0 v1 with ⟨a1, a2, -⟩ | ⟨a0, e, y, e0, e1, y0, y1, hv', a1, -, y2, y3⟩ <;> omega)
      obtain ⟨d, rfl⟩ := gD (show 1 ≤ D by omega)
      refine gC 300 [] rfl ?_
      (conv => whnf); try simp only [gO, gWe, ne_eq, Nat.reduceEqDiff, not_false_eq_true, true_or, or_true, true_and]
      repeat' (first | exact True.intro | (refine ⟨fun hb => ?_, fun hb => ?_⟩ <;> first | (exfalso; omega; done) | exact absurd True.intro hb | ((conv => whnf); try simp only [gO, gWe, ne_eq, Nat.reduceEqDiff, not_false_eq_true, true_or, or_true, true_and])) | (refine ⟨by omega, ?_⟩; (conv => whnf); try simp only [gO, gWe, ne_eq, Nat.reduceEqDiff, not_false_eq_true, true_or, or_true, true_and]) | (refine ⟨fun hb => ?_, ?_⟩ <;> first | (exfalso; omega; done) | exact absurd True.intro hb | ((conv => whnf); try simp only [gO, gWe, ne_eq, Nat.reduceEqDiff, not_false_eq_true, true_or, or_true, true_and])) | fail)
      · exact fin
      · exact fin
  · have hd := g_div (a := a - 100) (b := 40) (by omega) (by omega) (by omega) (by omega)
    have hr := g_rem (a := a - 100) (b := 40) (by omega) (by omega) (by omega) (by omega)
    have dm := Int.ediv_mul_le (a - 100) (show (40 : Int) ≠ 0 by omega)
    have q0 : 0 ≤ (a - 100) / 40 := by omega
    have none1 : ¬ ((a - 100) / 40 < (μ 1 1) ∧ (μ 14) ((a - 100) / 40) < a - 100 - (a - 100) / 40 * 40 ∧ a - 100 - (a - 100) / 40 * 40 < (μ 15) ((a - 100) / 40)) → Q (some (gI (-1))) g_SH μ := fun hn => k0 (fun v v0 v1 hv => by
      rcases iN_two hG hL hN v0 v1 with ⟨a1, a2, -⟩ | ⟨a0, e, y, e0, e1, y0, y1, hv', a1, -, y2, y3⟩
      · omega
      · have E := iE hG hL e0 e1
        have he : (a - 100) / 40 = e := by omega
        rw [he] at hn
        exact hn ⟨e1, by omega, by omega⟩)
    by_cases c1 : (a - 100) / 40 < (μ 1 1)
    · have E := iE hG hL q0 c1
      have fb := iN_fb hG hL hN q0 c1
      by_cases c2 : (μ 14) ((a - 100) / 40) < a - 100 - (a - 100) / 40 * 40
      · by_cases c3 : a - 100 - (a - 100) / 40 * 40 < (μ 15) ((a - 100) / 40)
        · have nm := hN.2.2.2.2.1 _ _ q0 c1 c2 c3
          have fin := k1 ((μ 22) ((a - 100) / 40) + (a - 100 - (a - 100) / 40 * 40) - (μ 14) ((a - 100) / 40) - 1) (by omega) (by omega) (by rw [nm.1]; omega)
          clear k1 k0 none1
          rw [← hr, ← hd] at fin c2 c3
          rw [← hd] at c1 E fb q0
          obtain ⟨d, rfl⟩ := gD (show 1 ≤ D by omega)
          refine gC 300 [] rfl ?_
          (conv => whnf); try simp only [gO, gWe, ne_eq, Nat.reduceEqDiff, not_false_eq_true, true_or, or_true, true_and]
          repeat' (first | exact True.intro | (refine ⟨fun hb => ?_, fun hb => ?_⟩ <;> first | (exfalso; omega; done) | exact absurd True.intro hb | ((conv => whnf); try simp only [gO, gWe, ne_eq, Nat.reduceEqDiff, not_false_eq_true, true_or, or_true, true_and])) | (refine ⟨by omega, ?_⟩; (conv => whnf); try simp only [gO, gWe, ne_eq, Nat.reduceEqDiff, not_false_eq_true, true_or, or_true, true_and]) | (refine ⟨fun hb => ?_, ?_⟩ <;> first | (exfalso; omega; done) | exact absurd True.intro hb | ((conv => whnf); try simp only [gO, gWe, ne_eq, Nat.reduceEqDiff, not_false_eq_true, true_or, or_true, true_and])) | fail)
          refine t_39 (by omega) hG hL hN (by omega) (by omega) ?_
          unfold xOn
          rw [if_neg (by omega), if_neg (by omega)]
          (conv => whnf); try simp only [gO, gWe, ne_eq, Nat.reduceEqDiff, not_false_eq_true, true_or, or_true, true_and]
          exact fin
        · have fin := none1 (fun h => c3 h.2.2)
          clear k1 k0 none1
          rw [← hr, ← hd] at c2 c3
          rw [← hd] at c1 E fb
          obtain ⟨d, rfl⟩ := gD (show 1 ≤ D by omega)
          refine gC 300 [] rfl ?_
          (conv => whnf); try simp only [gO, gWe, ne_eq, Nat.reduceEqDiff, not_false_eq_true, true_or, or_true, true_and]
          repeat' (first | exact True.intro | (refine ⟨fun hb => ?_, fun hb => ?_⟩ <;> first | (exfalso; omega; done) | exact absurd True.intro hb | ((conv => whnf); try simp only [gO, gWe, ne_eq, Nat.reduceEqDiff, not_false_eq_true, true_or, or_true, true_and])) | (refine ⟨by omega, ?_⟩; (conv => whnf); try simp only [gO, gWe, ne_eq, Nat.reduceEqDiff, not_false_eq_true, true_or, or_true, true_and]) | (refine ⟨fun hb => ?_, ?_⟩ <;> first | (exfalso; omega; done) | exact absurd True.intro hb | ((conv => whnf); try simp only [gO, gWe, ne_eq, Nat.reduceEqDiff, not_false_eq_true, true_or, or_true, true_and])) | fail)
          exact fin
      · have fin := none1 (fun h => c2 h.2.1)
        clear k1 k0 none1
        rw [← hr, ← hd] at c2
        rw [← hd] at c1 E fb
        obtain ⟨d, rfl⟩ := gD (show 1 ≤ D by omega)
        refine gC 300 [] rfl ?_
        (conv => whnf); try simp only [gO, gWe, ne_eq, Nat.reduceEqDiff, not_false_eq_true, true_or, or_true, true_and]
        repeat' (first | exact True.intro | (refine ⟨fun hb => ?_, fun hb => ?_⟩ <;> first | (exfalso; omega; done) | exact absurd True.intro hb | ((conv => whnf); try simp only [gO, gWe, ne_eq, Nat.reduceEqDiff, not_false_eq_true, true_or, or_true, true_and])) | (refine ⟨by omega, ?_⟩; (conv => whnf); try simp only [gO, gWe, ne_eq, Nat.reduceEqDiff, not_false_eq_true, true_or, or_true, true_and]) | (refine ⟨fun hb => ?_, ?_⟩ <;> first | (exfalso; omega; done) | exact absurd True.intro hb | ((conv => whnf); try simp only [gO, gWe, ne_eq, Nat.reduceEqDiff, not_false_eq_true, true_or, or_true, true_and])) | fail)
        exact fin
    · have fin := none1 (fun h => c1 h.1)
      clear k1 k0 none1
      rw [← hd] at c1
      obtain ⟨d, rfl⟩ := gD (show 1 ≤ D by omega)
      refine gC 300 [] rfl ?_
      (conv => whnf); try simp only [gO, gWe, ne_eq, Nat.reduceEqDiff, not_false_eq_true, true_or, or_true, true_and]
      repeat' (first | exact True.intro | (refine ⟨fun hb => ?_, fun hb => ?_⟩ <;> first | (exfalso; omega; done) | exact absurd True.intro hb | ((conv => whnf); try simp only [gO, gWe, ne_eq, Nat.reduceEqDiff, not_false_eq_true, true_or, or_true, true_and])) | (refine ⟨by omega, ?_⟩; (conv => whnf); try simp only [gO, gWe, ne_eq, Nat.reduceEqDiff, not_false_eq_true, true_or, or_true, true_and]) | (refine ⟨fun hb => ?_, ?_⟩ <;> first | (exfalso; omega; done) | exact absurd True.intro hb | ((conv => whnf); try simp only [gO, gWe, ne_eq, Nat.reduceEqDiff, not_false_eq_true, true_or, or_true, true_and])) | fail)
      exact fin
