/-! the model's methods that read the drawing -/
theorem t_157 {D : Nat} (hD : 1 ≤ D) {μ : MU} {Q : GQ} {v : Int} (hM : iM μ) (hN : iN μ) (h0 : 0 ≤ v) (h1 : v < (μ 19 2)) (h : Q (some (gI ((μ 21) v))) g_SH μ) : gCall g_T g_F D 157 [gR 61, gI ((μ 20) v)] g_SH μ Q := by
  have G := hM.1.1
  have L := hM.2.1.2.2.2.1
  rcases iN_two hM.1 hM.2.1 hN h0 h1 with ⟨a1, a2, a3, a4⟩ | ⟨a0, e, y, e0, e1, y0, y1, hv, a1, a2, y2, y3⟩
  · have f := hM.2.2.2.1 v h0 a1
    rw [a3, ← f] at h
    rw [a2]
    obtain ⟨d, rfl⟩ := gD (show 1 ≤ D by omega)
    refine gC 300 [] rfl ?_
    (conv => whnf); try simp only [gO, gWe, ne_eq, Nat.reduceEqDiff, not_false_eq_true, true_or, or_true, true_and]
    repeat' (first | exact True.intro | (refine ⟨fun hb => ?_, fun hb => ?_⟩ <;> first | (exfalso; omega; done) | exact absurd True.intro hb | ((conv => whnf); try simp only [gO, gWe, ne_eq, Nat.reduceEqDiff, not_false_eq_true, true_or, or_true, true_and])) | (refine ⟨by omega, ?_⟩; (conv => whnf); try simp only [gO, gWe, ne_eq, Nat.reduceEqDiff, not_false_eq_true, true_or, or_true, true_and]) | (refine ⟨fun hb => ?_, ?_⟩ <;> first | (exfalso; omega; done) | exact absurd True.intro hb | ((conv => whnf); try simp only [gO, gWe, ne_eq, Nat.reduceEqDiff, not_false_eq_true, true_or, or_true, true_and])) | fail)
    exact h
  · rw [a1]
    obtain ⟨d, rfl⟩ := gD (show 1 ≤ D by omega)
    refine gC 300 [] rfl ?_
    (conv => whnf); try simp only [gO, gWe, ne_eq, Nat.reduceEqDiff, not_false_eq_true, true_or, or_true, true_and]
    repeat' (first | exact True.intro | (refine ⟨fun hb => ?_, fun hb => ?_⟩ <;> first | (exfalso; omega; done) | exact absurd True.intro hb | ((conv => whnf); try simp only [gO, gWe, ne_eq, Nat.reduceEqDiff, not_false_eq_true, true_or, or_true, true_and])) | (refine ⟨by omega, ?_⟩; (conv => whnf); try simp only [gO, gWe, ne_eq, Nat.reduceEqDiff, not_false_eq_true, true_or, or_true, true_and]) | (refine ⟨fun hb => ?_, ?_⟩ <;> first | (exfalso; omega; done) | exact absurd True.intro hb | ((conv => whnf); try simp only [gO, gWe, ne_eq, Nat.reduceEqDiff, not_false_eq_true, true_or, or_true, true_and])) | fail)
    rw [g_rem (by omega) (by omega) (by omega) (by omega), show 100 + 40 * e + y - 100 - (100 + 40 * e + y - 100) / 40 * 40 = (μ 21) v by omega]
    exact h
theorem t_158 {D : Nat} (hD : 1 ≤ D) {μ : MU} {Q : GQ} {v : Int} (hM : iM μ) (hN : iN μ) (h0 : 0 ≤ v) (h1 : v < (μ 19 2)) (h : Q (some (gI (xWd μ v))) g_SH μ) : gCall g_T g_F D 158 [gR 61, gI ((μ 20) v)] g_SH μ Q := by
  have G := hM.1.1
  unfold xWd at h
  rcases iN_two hM.1 hM.2.1 hN h0 h1 with ⟨a1, a2, a3, a4⟩ | ⟨a0, e, y, e0, e1, y0, y1, hv, a1, a2, y2, y3⟩
  · have f := (hM.2.2.1.2.1 v h0 a1).1
    rw [if_pos a1, ← f] at h
    rw [a2]
    obtain ⟨d, rfl⟩ := gD (show 1 ≤ D by omega)
    refine gC 300 [] rfl ?_
    (conv => whnf); try simp only [gO, gWe, ne_eq, Nat.reduceEqDiff, not_false_eq_true, true_or, or_true, true_and]
    repeat' (first | exact True.intro | (refine ⟨fun hb => ?_, fun hb => ?_⟩ <;> first | (exfalso; omega; done) | exact absurd True.intro hb | ((conv => whnf); try simp only [gO, gWe, ne_eq, Nat.reduceEqDiff, not_false_eq_true, true_or, or_true, true_and])) | (refine ⟨by omega, ?_⟩; (conv => whnf); try simp only [gO, gWe, ne_eq, Nat.reduceEqDiff, not_false_eq_true, true_or, or_true, true_and]) | (refine ⟨fun hb => ?_, ?_⟩ <;> first | (exfalso; omega; done) | exact absurd True.intro hb | ((conv => whnf); try simp only [gO, gWe, ne_eq, Nat.reduceEqDiff, not_false_eq_true, true_or, or_true, true_and])) | fail)
    exact h
  · rw [if_neg (by omega)] at h
    rw [a1]
    obtain ⟨d, rfl⟩ := gD (show 1 ≤ D by omega)
    refine gC 300 [] rfl ?_
    (conv => whnf); try simp only [gO, gWe, ne_eq, Nat.reduceEqDiff, not_false_eq_true, true_or, or_true, true_and]
    repeat' (first | exact True.intro | (refine ⟨fun hb => ?_, fun hb => ?_⟩ <;> first | (exfalso; omega; done) | exact absurd True.intro hb | ((conv => whnf); try simp only [gO, gWe, ne_eq, Nat.reduceEqDiff, not_false_eq_true, true_or, or_true, true_and])) | (refine ⟨by omega, ?_⟩; (conv => whnf); try simp only [gO, gWe, ne_eq, Nat.reduceEqDiff, not_false_eq_true, true_or, or_true, true_and]) | (refine ⟨fun hb => ?_, ?_⟩ <;> first | (exfalso; omega; done) | exact absurd True.intro hb | ((conv => whnf); try simp only [gO, gWe, ne_eq, Nat.reduceEqDiff, not_false_eq_true, true_or, or_true, true_and])) | fail)
    exact h
theorem t_159 {D : Nat} (hD : 1 ≤ D) {μ : MU} {Q : GQ} {v : Int} (hM : iM μ) (hN : iN μ) (h0 : 0 ≤ v) (h1 : v < (μ 19 2)) (h : Q (some (gI (xGr μ v))) g_SH μ) : gCall g_T g_F D 159 [gR 61, gI ((μ 20) v)] g_SH μ Q := by
  have G := hM.1.1
  unfold xGr at h
  rcases iN_two hM.1 hM.2.1 hN h0 h1 with ⟨a1, a2, a3, a4⟩ | ⟨a0, e, y, e0, e1, y0, y1, hv, a1, a2, y2, y3⟩
  · have f := (hM.2.2.1.2.1 v h0 a1).2
    rw [if_pos a1, ← f] at h
    rw [a2]
    obtain ⟨d, rfl⟩ := gD (show 1 ≤ D by omega)
    refine gC 300 [] rfl ?_
    (conv => whnf); try simp only [gO, gWe, ne_eq, Nat.reduceEqDiff, not_false_eq_true, true_or, or_true, true_and]
    repeat' (first | exact True.intro | (refine ⟨fun hb => ?_, fun hb => ?_⟩ <;> first | (exfalso; omega; done) | exact absurd True.intro hb | ((conv => whnf); try simp only [gO, gWe, ne_eq, Nat.reduceEqDiff, not_false_eq_true, true_or, or_true, true_and])) | (refine ⟨by omega, ?_⟩; (conv => whnf); try simp only [gO, gWe, ne_eq, Nat.reduceEqDiff, not_false_eq_true, true_or, or_true, true_and]) | (refine ⟨fun hb => ?_, ?_⟩ <;> first | (exfalso; omega; done) | exact absurd True.intro hb | ((conv => whnf); try simp only [gO, gWe, ne_eq, Nat.reduceEqDiff, not_false_eq_true, true_or, or_true, true_and])) | fail)
    exact h
  · rw [if_neg (by omega)] at h
    rw [a1]
    obtain ⟨d, rfl⟩ := gD (show 1 ≤ D by omega)
    refine gC 300 [] rfl ?_
    (conv => whnf); try simp only [gO, gWe, ne_eq, Nat.reduceEqDiff, not_false_eq_true, true_or, or_true, true_and]
    repeat' (first | exact True.intro | (refine ⟨fun hb => ?_, fun hb => ?_⟩ <;> first | (exfalso; omega; done) | exact absurd True.intro hb | ((conv => whnf); try simp only [gO, gWe, ne_eq, Nat.reduceEqDiff, not_false_eq_true, true_or, or_true, true_and])) | (refine ⟨by omega, ?_⟩; (conv => whnf); try simp only [gO, gWe, ne_eq, Nat.reduceEqDiff, not_false_eq_true, true_or, or_true, true_and]) | (refine ⟨fun hb => ?_, ?_⟩ <;> first | (exfalso; omega; done) | exact absurd True.intro hb | ((conv => whnf); try simp only [gO, gWe, ne_eq, Nat.reduceEqDiff, not_false_eq_true, true_or, or_true, true_and])) | fail)
    exact h
theorem t_160 {D : Nat} (hD : 1 ≤ D) {μ : MU} {Q : GQ} {y : Int} (hL : iL μ) (hS : iDs μ) (h0 : 0 ≤ y) (h1 : y ≤ (μ 9 1)) (h : Q (some (gI ((μ 23) y))) g_SH μ) : gCall g_T g_F D 160 [gR 61, gI y] g_SH μ Q := by
  have L := hL.2.2.2.1
  have s := hS.2 y h0 h1
  rw [← s] at h
  obtain ⟨d, rfl⟩ := gD (show 1 ≤ D by omega)
  refine gC 300 [] rfl ?_
  (conv => whnf); try simp only [gO, gWe, ne_eq, Nat.reduceEqDiff, not_false_eq_true, true_or, or_true, true_and]
  repeat' (first | exact True.intro | (refine ⟨fun hb => ?_, fun hb => ?_⟩ <;> first | (exfalso; omega; done) | exact absurd True.intro hb | ((conv => whnf); try simp only [gO, gWe, ne_eq, Nat.reduceEqDiff, not_false_eq_true, true_or, or_true, true_and])) | (refine ⟨by omega, ?_⟩; (conv => whnf); try simp only [gO, gWe, ne_eq, Nat.reduceEqDiff, not_false_eq_true, true_or, or_true, true_and]) | (refine ⟨fun hb => ?_, ?_⟩ <;> first | (exfalso; omega; done) | exact absurd True.intro hb | ((conv => whnf); try simp only [gO, gWe, ne_eq, Nat.reduceEqDiff, not_false_eq_true, true_or, or_true, true_and])) | fail)
  exact h
theorem t_161 {D : Nat} (hD : 1 ≤ D) {μ : MU} {Q : GQ} {y : Int} (hM : iM μ) (hN : iN μ) (hS : iDs μ) (h0 : 0 ≤ y) (h1 : y < (μ 9 1)) (h : Q (some (gI ((μ 23) (y + 1) - (μ 23) y))) g_SH μ) : gCall g_T g_F D 161 [gR 61, gI y] g_SH μ Q := by
  have L := hM.2.1.2.2.2.1
  have s := hS.2 y h0 (by omega)
  have s1 := hS.2 (y + 1) (by omega) (by omega)
  have V := hN.1
  have G := hM.1.1
  have st := (iN_st hM.1 hM.2.1 hN).1 y h0 h1
  rw [show (129 : Int) + (y + 1) = 129 + y + 1 by omega] at s1
  rw [← s, ← s1] at h
  obtain ⟨d, rfl⟩ := gD (show 1 ≤ D by omega)
  refine gC 300 [] rfl ?_
  (conv => whnf); try simp only [gO, gWe, ne_eq, Nat.reduceEqDiff, not_false_eq_true, true_or, or_true, true_and]
  repeat' (first | exact True.intro | (refine ⟨fun hb => ?_, fun hb => ?_⟩ <;> first | (exfalso; omega; done) | exact absurd True.intro hb | ((conv => whnf); try simp only [gO, gWe, ne_eq, Nat.reduceEqDiff, not_false_eq_true, true_or, or_true, true_and])) | (refine ⟨by omega, ?_⟩; (conv => whnf); try simp only [gO, gWe, ne_eq, Nat.reduceEqDiff, not_false_eq_true, true_or, or_true, true_and]) | (refine ⟨fun hb => ?_, ?_⟩ <;> first | (exfalso; omega; done) | exact absurd True.intro hb | ((conv => whnf); try simp only [gO, gWe, ne_eq, Nat.reduceEqDiff, not_false_eq_true, true_or, or_true, true_and])) | fail)
  exact h
theorem t_162 {D : Nat} (hD : 1 ≤ D) {μ : MU} {Q : GQ} {a : Int} (hV : (μ 62 3) = (μ 19 2) ∧ 0 ≤ (μ 19 2) ∧ (μ 19 2) ≤ 60) (h1 : ∀ k : Int, 0 ≤ k → k < (μ 19 2) → (μ 62) (169 + k) = a → (∀ j : Int, 0 ≤ j → j < k → (μ 62) (169 + j) ≠ a) → Q (some (gI (k))) g_SH μ) (h0 : (∀ j : Int, 0 ≤ j → j < (μ 19 2) → (μ 62) (169 + j) ≠ a) → Q (some (gI (-1))) g_SH μ) : gCall g_T g_F D 162 [gR 61, gI a] g_SH μ Q := by
  obtain ⟨d, rfl⟩ := gD (show 1 ≤ D by omega)
  refine gC 300 [2] rfl ?_
  (conv => whnf); try simp only [gO, gWe, ne_eq, Nat.reduceEqDiff, not_false_eq_true, true_or, or_true, true_and]
  have key : ∀ k : Int, 0 ≤ k → k ≤ (μ 19 2) → (∀ j : Int, 0 ≤ j → j < k → (μ 62) (169 + j) ≠ a) → gG g_T g_F (gCall g_T g_F d) 0 (fun _ => 0) (g_T 162) Q 2 [gR 61, gI a, gI k] [] g_SH μ 0 0 := by
    refine g_up (fun k k0 k1 ih hk => ?_) (fun hk => ?_)
    · refine gB_gG [2] 300 ?_
      (conv => whnf); try simp only [gO, gWe, ne_eq, Nat.reduceEqDiff, not_false_eq_true, true_or, or_true, true_and]
      repeat' (first | exact True.intro | (refine ⟨fun hb => ?_, fun hb => ?_⟩ <;> first | (exfalso; omega; done) | exact absurd True.intro hb | ((conv => whnf); try simp only [gO, gWe, ne_eq, Nat.reduceEqDiff, not_false_eq_true, true_or, or_true, true_and])) | (refine ⟨by omega, ?_⟩; (conv => whnf); try simp only [gO, gWe, ne_eq, Nat.reduceEqDiff, not_false_eq_true, true_or, or_true, true_and]) | (refine ⟨fun hb => ?_, ?_⟩ <;> first | (exfalso; omega; done) | exact absurd True.intro hb | ((conv => whnf); try simp only [gO, gWe, ne_eq, Nat.reduceEqDiff, not_false_eq_true, true_or, or_true, true_and])) | fail)
      · exact ih (fun j j0 j1 => by
          by_cases hc : j = k
          · subst hc; exact hb
          · exact hk j j0 (by omega))
      · exact h1 k k0 k1 (by omega) hk
    · refine gB_gG [2] 300 ?_
      (conv => whnf); try simp only [gO, gWe, ne_eq, Nat.reduceEqDiff, not_false_eq_true, true_or, or_true, true_and]
      repeat' (first | exact True.intro | (refine ⟨fun hb => ?_, fun hb => ?_⟩ <;> first | (exfalso; omega; done) | exact absurd True.intro hb | ((conv => whnf); try simp only [gO, gWe, ne_eq, Nat.reduceEqDiff, not_false_eq_true, true_or, or_true, true_and])) | (refine ⟨by omega, ?_⟩; (conv => whnf); try simp only [gO, gWe, ne_eq, Nat.reduceEqDiff, not_false_eq_true, true_or, or_true, true_and]) | (refine ⟨fun hb => ?_, ?_⟩ <;> first | (exfalso; omega; done) | exact absurd True.intro hb | ((conv => whnf); try simp only [gO, gWe, ne_eq, Nat.reduceEqDiff, not_false_eq_true, true_or, or_true, true_and])) | fail)
      exact h0 hk
  exact key 0 (by omega) (by omega) (fun j _ _ => by omega)
/-- where a vertex stands -/
theorem t_162v {D : Nat} (hD : 1 ≤ D) {μ : MU} {Q : GQ} {v : Int} {sq pl : Int → Int} (hK : iK μ sq pl) (h0 : 0 ≤ v) (h1 : v < (μ 19 2)) (h : Q (some (gI ((μ 23) ((μ 21) v) + pl v))) g_SH μ) : gCall g_T g_F D 162 [gR 61, gI ((μ 20) v)] g_SH μ Q := by
  obtain ⟨hM, hN, hS, hO, hq⟩ := hK
  have G := hM.1.1
  have V := hN.1
  have a := iO_v hM.1 hM.2.1 hN hO h0 h1
  refine t_162 hD ⟨hS.1.1, by omega, by omega⟩ (fun k k0 k1 hk _ => ?_) (fun hk => ?_)
  · rw [hq k k0 k1] at hk
    have b := iO_k hM.1 hM.2.1 hN hO k0 k1
    have c := iN_inj hM.1 hM.2.1 hN b.1.1 b.1.2 h0 h1 hk
    rw [c] at b
    rw [b.2.2.1] at h
    exact h
  · have c := hk ((μ 23) ((μ 21) v) + pl v) (by omega) (by omega)
    rw [hq _ (by omega) (by omega), a.2.2.2] at c
    exact absurd rfl c
theorem t_163 {D : Nat} (hD : 2 ≤ D) {μ : MU} {Q : GQ} {v : Int} {sq pl : Int → Int} (hK : iK μ sq pl) (h0 : 0 ≤ v) (h1 : v < (μ 19 2)) (h : Q (some (gI (pl v))) g_SH μ) : gCall g_T g_F D 163 [gR 61, gI ((μ 20) v)] g_SH μ Q := by
  have hM := hK.1
  have hN := hK.2.1
  have a := iO_v hM.1 hM.2.1 hN hK.2.2.2.1 h0 h1
  have G := hM.1.1
  have V := hN.1
  obtain ⟨d, rfl⟩ := gD (show 1 ≤ D by omega)
  refine gC 300 [] rfl ?_
  (conv => whnf); try simp only [gO, gWe, ne_eq, Nat.reduceEqDiff, not_false_eq_true, true_or, or_true, true_and]
  refine t_162v (by omega) hK h0 h1 ?_
  (conv => whnf); try simp only [gO, gWe, ne_eq, Nat.reduceEqDiff, not_false_eq_true, true_or, or_true, true_and]
  refine t_157 (by omega) hM hN h0 h1 ?_
  (conv => whnf); try simp only [gO, gWe, ne_eq, Nat.reduceEqDiff, not_false_eq_true, true_or, or_true, true_and]
  refine t_160 (by omega) hM.2.1 hK.2.2.1 a.1.1 (by omega) ?_
  (conv => whnf); try simp only [gO, gWe, ne_eq, Nat.reduceEqDiff, not_false_eq_true, true_or, or_true, true_and]
  repeat' (first | exact True.intro | (refine ⟨fun hb => ?_, fun hb => ?_⟩ <;> first | (exfalso; omega; done) | exact absurd True.intro hb | ((conv => whnf); try simp only [gO, gWe, ne_eq, Nat.reduceEqDiff, not_false_eq_true, true_or, or_true, true_and])) | (refine ⟨by omega, ?_⟩; (conv => whnf); try simp only [gO, gWe, ne_eq, Nat.reduceEqDiff, not_false_eq_true, true_or, or_true, true_and]) | (refine ⟨fun hb => ?_, ?_⟩ <;> first | (exfalso; omega; done) | exact absurd True.intro hb | ((conv => whnf); try simp only [gO, gWe, ne_eq, Nat.reduceEqDiff, not_false_eq_true, true_or, or_true, true_and])) | fail)
  rw [show (μ 23) ((μ 21) v) + pl v - (μ 23) ((μ 21) v) = pl v by omega]
  exact h
theorem t_175 {D : Nat} (hD : 4 ≤ D) {μ : MU} {Q : GQ} {e y : Int} {sq pl : Int → Int} (hK : iK μ sq pl) (h0 : 0 ≤ e) (h1 : e < (μ 1 1)) (y0 : (μ 14) e ≤ y) (y1 : y < (μ 15) e) (h : Q (some (gI (xSpot μ pl e y))) g_SH μ) : gCall g_T g_F D 175 [gR 61, gI e, gI y] g_SH μ Q := by
  have hM := hK.1
  have hN := hK.2.1
  have E := iE hM.1 hM.2.1 h0 h1
  have G := hM.1.1
  have g := hM.1.2.2 e h0 h1
  have l := iM_lu hM h0 h1
  have v := xOn_v hM.1 hM.2.1 hN h0 h1 y0 (by omega)
  have a := iO_v hM.1 hM.2.1 hN hK.2.2.2.1 v.1.1 v.1.2
  have n : (if (μ 14) e = y then (μ 11) e else 100 + 40 * e + y) = (μ 20) (xOn μ e y) := by
    rw [v.2.2]
    by_cases hc : (μ 14) e = y
    · rw [if_pos hc, if_pos hc]
    · rw [if_neg hc, if_neg hc, if_neg (by omega)]
  unfold xSpot at h
  obtain ⟨d, rfl⟩ := gD (show 1 ≤ D by omega)
  refine gC 300 [] rfl ?_
  (conv => whnf); try simp only [gO, gWe, ne_eq, Nat.reduceEqDiff, not_false_eq_true, true_or, or_true, true_and]
  refine t_173 (by omega) hM h0 h1 (by omega) ?_
  (conv => whnf); try simp only [gO, gWe, ne_eq, Nat.reduceEqDiff, not_false_eq_true, true_or, or_true, true_and]
  rw [n]
  refine t_163 (by omega) hK v.1.1 v.1.2 ?_
  (conv => whnf); try simp only [gO, gWe, ne_eq, Nat.reduceEqDiff, not_false_eq_true, true_or, or_true, true_and]
  repeat' (first | exact True.intro | (refine ⟨fun hb => ?_, fun hb => ?_⟩ <;> first | (exfalso; omega; done) | exact absurd True.intro hb | ((conv => whnf); try simp only [gO, gWe, ne_eq, Nat.reduceEqDiff, not_false_eq_true, true_or, or_true, true_and])) | (refine ⟨by omega, ?_⟩; (conv => whnf); try simp only [gO, gWe, ne_eq, Nat.reduceEqDiff, not_false_eq_true, true_or, or_true, true_and]) | (refine ⟨fun hb => ?_, ?_⟩ <;> first | (exfalso; omega; done) | exact absurd True.intro hb | ((conv => whnf); try simp only [gO, gWe, ne_eq, Nat.reduceEqDiff, not_false_eq_true, true_or, or_true, true_and])) | fail)
  refine t_142 (by omega) hM h0 h1 ?_
  (conv => whnf); try simp only [gO, gWe, ne_eq, Nat.reduceEqDiff, not_false_eq_true, true_or, or_true, true_and]
  repeat' (first | exact True.intro | (refine ⟨fun hb => ?_, fun hb => ?_⟩ <;> first | (exfalso; omega; done) | exact absurd True.intro hb | ((conv => whnf); try simp only [gO, gWe, ne_eq, Nat.reduceEqDiff, not_false_eq_true, true_or, or_true, true_and])) | (refine ⟨by omega, ?_⟩; (conv => whnf); try simp only [gO, gWe, ne_eq, Nat.reduceEqDiff, not_false_eq_true, true_or, or_true, true_and]) | (refine ⟨fun hb => ?_, ?_⟩ <;> first | (exfalso; omega; done) | exact absurd True.intro hb | ((conv => whnf); try simp only [gO, gWe, ne_eq, Nat.reduceEqDiff, not_false_eq_true, true_or, or_true, true_and])) | fail)
  · rw [if_neg (by omega), if_neg (by omega)] at h
    exact h
  · refine t_144 (by omega) hM h0 h1 ?_
    (conv => whnf); try simp only [gO, gWe, ne_eq, Nat.reduceEqDiff, not_false_eq_true, true_or, or_true, true_and]
    have x : (if (1 : Int) = (μ 10) e then (μ 7) e else (μ 6) e) = (if (μ 10) e = 1 then (μ 7) e else (μ 6) e) := by
      rcases E.2.2.2.2.1 with c | c <;> rw [c] <;> rfl
    rw [x]
    rw [if_pos (by omega)] at h
    refine ⟨?_, h⟩
    split <;> omega
theorem t_176 {D : Nat} (hD : 4 ≤ D) {μ : MU} {Q : GQ} {e y : Int} {sq pl : Int → Int} (hK : iK μ sq pl) (h0 : 0 ≤ e) (h1 : e < (μ 1 1)) (y0 : (μ 14) e ≤ y) (y1 : y < (μ 15) e) (h : Q (some (gI (xSpot μ pl e (y + 1)))) g_SH μ) : gCall g_T g_F D 176 [gR 61, gI e, gI y] g_SH μ Q := by
  have hM := hK.1
  have hN := hK.2.1
  have E := iE hM.1 hM.2.1 h0 h1
  have G := hM.1.1
  have g := hM.1.2.2 e h0 h1
  have l := iM_lu hM h0 h1
  have v := xOn_v hM.1 hM.2.1 hN h0 h1 (y := y + 1) (by omega) (by omega)
  have a := iO_v hM.1 hM.2.1 hN hK.2.2.2.1 v.1.1 v.1.2
  have n : (if (μ 15) e = y + 1 then (μ 12) e else 100 + 40 * e + (y + 1)) = (μ 20) (xOn μ e (y + 1)) := by
    rw [v.2.2, if_neg (show ¬ (μ 14) e = y + 1 by omega)]
  unfold xSpot at h
  obtain ⟨d, rfl⟩ := gD (show 1 ≤ D by omega)
  refine gC 300 [] rfl ?_
  (conv => whnf); try simp only [gO, gWe, ne_eq, Nat.reduceEqDiff, not_false_eq_true, true_or, or_true, true_and]
  refine t_174 (by omega) hM h0 h1 (by omega) ?_
  (conv => whnf); try simp only [gO, gWe, ne_eq, Nat.reduceEqDiff, not_false_eq_true, true_or, or_true, true_and]
  rw [n]
  refine t_163 (by omega) hK v.1.1 v.1.2 ?_
  (conv => whnf); try simp only [gO, gWe, ne_eq, Nat.reduceEqDiff, not_false_eq_true, true_or, or_true, true_and]
  repeat' (first | exact True.intro | (refine ⟨fun hb => ?_, fun hb => ?_⟩ <;> first | (exfalso; omega; done) | exact absurd True.intro hb | ((conv => whnf); try simp only [gO, gWe, ne_eq, Nat.reduceEqDiff, not_false_eq_true, true_or, or_true, true_and])) | (refine ⟨by omega, ?_⟩; (conv => whnf); try simp only [gO, gWe, ne_eq, Nat.reduceEqDiff, not_false_eq_true, true_or, or_true, true_and]) | (refine ⟨fun hb => ?_, ?_⟩ <;> first | (exfalso; omega; done) | exact absurd True.intro hb | ((conv => whnf); try simp only [gO, gWe, ne_eq, Nat.reduceEqDiff, not_false_eq_true, true_or, or_true, true_and])) | fail)
  refine t_143 (by omega) hM h0 h1 ?_
  (conv => whnf); try simp only [gO, gWe, ne_eq, Nat.reduceEqDiff, not_false_eq_true, true_or, or_true, true_and]
  repeat' (first | exact True.intro | (refine ⟨fun hb => ?_, fun hb => ?_⟩ <;> first | (exfalso; omega; done) | exact absurd True.intro hb | ((conv => whnf); try simp only [gO, gWe, ne_eq, Nat.reduceEqDiff, not_false_eq_true, true_or, or_true, true_and])) | (refine ⟨by omega, ?_⟩; (conv => whnf); try simp only [gO, gWe, ne_eq, Nat.reduceEqDiff, not_false_eq_true, true_or, or_true, true_and]) | (refine ⟨fun hb => ?_, ?_⟩ <;> first | (exfalso; omega; done) | exact absurd True.intro hb | ((conv => whnf); try simp only [gO, gWe, ne_eq, Nat.reduceEqDiff, not_false_eq_true, true_or, or_true, true_and])) | fail)
  · rw [if_neg (by omega), if_neg (by omega)] at h
    exact h
  · refine t_144 (by omega) hM h0 h1 ?_
    (conv => whnf); try simp only [gO, gWe, ne_eq, Nat.reduceEqDiff, not_false_eq_true, true_or, or_true, true_and]
    have x : (if (0 : Int) = (μ 10) e then (μ 7) e else (μ 6) e) = (if (μ 10) e = 1 then (μ 6) e else (μ 7) e) := by
      rcases E.2.2.2.2.1 with c | c <;> rw [c] <;> rfl
    rw [x]
    rw [if_neg (by omega), if_pos (by omega)] at h
    refine ⟨?_, h⟩
    split <;> omega
/-- the keys are found -/
def iQ (μ : MU) (pl : Int → Int) (y : Int) : Prop := ∀ e : Int, 0 ≤ e → e < (μ 1 1) → (μ 14) e ≤ y → y < (μ 15) e → (μ 72) e = xSpot μ pl e y ∧ (μ 73) e = xSpot μ pl e (y + 1)
theorem t_177 {D : Nat} (hD : 5 ≤ D) {μ : MU} {Q : GQ} {y : Int} {sq pl : Int → Int} (hK : iK μ sq pl) (h : ∀ ν : MU, gFr [72, 73] μ ν → iQ ν pl y → Q none g_SH ν) : gCall g_T g_F D 177 [gR 61, gI y] g_SH μ Q := by
  have G := hK.1.1.1
  obtain ⟨d, rfl⟩ := gD (show 1 ≤ D by omega)
  refine gC 300 [2] rfl ?_
  (conv => whnf); try simp only [gO, gWe, ne_eq, Nat.reduceEqDiff, not_false_eq_true, true_or, or_true, true_and]
  have key : ∀ e : Int, 0 ≤ e → e ≤ (μ 1 1) → ∀ ν : MU, gFr [72, 73] μ ν → (∀ c : Int, 0 ≤ c → c < e → (μ 14) c ≤ y → y < (μ 15) c → (ν 72) c = xSpot μ pl c y ∧ (ν 73) c = xSpot μ pl c (y + 1)) → gG g_T g_F (gCall g_T g_F d) 0 (fun _ => 0) (g_T 177) Q 2 [gR 61, gI y, gI e] [] g_SH ν 0 0 := by
    refine g_up (fun e e0 e1 ih ν hν hk => ?_) (fun ν hν hk => ?_)
    · have st : hSt μ ν := hν.st (by decide)
      have hK' : iK ν sq pl := iK_c st (hν.sm (by decide) (by decide) (by decide)) (hν 62 (by decide)) hK
      have m := hK'.1.2.2.1.1
      have eq1 : (ν 1 1) = (μ 1 1) := by rw [st 1 (by decide) (by decide)]
      refine gB_gG [2] 300 ?_
      (conv => whnf); try simp only [gO, gWe, ne_eq, Nat.reduceEqDiff, not_false_eq_true, true_or, or_true, true_and]
      repeat' (first | exact True.intro | (refine ⟨fun hb => ?_, fun hb => ?_⟩ <;> first | (exfalso; omega; done) | exact absurd True.intro hb | ((conv => whnf); try simp only [gO, gWe, ne_eq, Nat.reduceEqDiff, not_false_eq_true, true_or, or_true, true_and])) | (refine ⟨by omega, ?_⟩; (conv => whnf); try simp only [gO, gWe, ne_eq, Nat.reduceEqDiff, not_false_eq_true, true_or, or_true, true_and]) | (refine ⟨fun hb => ?_, ?_⟩ <;> first | (exfalso; omega; done) | exact absurd True.intro hb | ((conv => whnf); try simp only [gO, gWe, ne_eq, Nat.reduceEqDiff, not_false_eq_true, true_or, or_true, true_and])) | fail)
      refine t_172 (by omega) hK'.1 e0 (by omega) (fun hp => ?_) (fun hp => ?_)
      · (conv => whnf); try simp only [gO, gWe, ne_eq, Nat.reduceEqDiff, not_false_eq_true, true_or, or_true, true_and]
        repeat' (first | exact True.intro | (refine ⟨fun hb => ?_, fun hb => ?_⟩ <;> first | (exfalso; omega; done) | exact absurd True.intro hb | ((conv => whnf); try simp only [gO, gWe, ne_eq, Nat.reduceEqDiff, not_false_eq_true, true_or, or_true, true_and])) | (refine ⟨by omega, ?_⟩; (conv => whnf); try simp only [gO, gWe, ne_eq, Nat.reduceEqDiff, not_false_eq_true, true_or, or_true, true_and]) | (refine ⟨fun hb => ?_, ?_⟩ <;> first | (exfalso; omega; done) | exact absurd True.intro hb | ((conv => whnf); try simp only [gO, gWe, ne_eq, Nat.reduceEqDiff, not_false_eq_true, true_or, or_true, true_and])) | fail)
        refine t_175 (by omega) hK' e0 (by omega) hp.1 hp.2 ?_
        (conv => whnf); try simp only [gO, gWe, ne_eq, Nat.reduceEqDiff, not_false_eq_true, true_or, or_true, true_and]
        repeat' (first | exact True.intro | (refine ⟨fun hb => ?_, fun hb => ?_⟩ <;> first | (exfalso; omega; done) | exact absurd True.intro hb | ((conv => whnf); try simp only [gO, gWe, ne_eq, Nat.reduceEqDiff, not_false_eq_true, true_or, or_true, true_and])) | (refine ⟨by omega, ?_⟩; (conv => whnf); try simp only [gO, gWe, ne_eq, Nat.reduceEqDiff, not_false_eq_true, true_or, or_true, true_and]) | (refine ⟨fun hb => ?_, ?_⟩ <;> first | (exfalso; omega; done) | exact absurd True.intro hb | ((conv => whnf); try simp only [gO, gWe, ne_eq, Nat.reduceEqDiff, not_false_eq_true, true_or, or_true, true_and])) | fail)
        have hν1 : gFr [72, 73] μ (gW ν 72 e (xSpot ν pl e y)) := hν.W (by decide)
        have st1 : hSt μ (gW ν 72 e (xSpot ν pl e y)) := hν1.st (by decide)
        have hK1 : iK (gW ν 72 e (xSpot ν pl e y)) sq pl := iK_c st1 (hν1.sm (by decide) (by decide) (by decide)) (hν1 62 (by decide)) hK
        refine t_176 (by omega) hK1 e0 ?_ ?_ ?_ ?_
        · exact (by omega : e < (ν 1 1))
        · exact hp.1
        · exact hp.2
        (conv => whnf); try simp only [gO, gWe, ne_eq, Nat.reduceEqDiff, not_false_eq_true, true_or, or_true, true_and]
        repeat' (first | exact True.intro | (refine ⟨fun hb => ?_, fun hb => ?_⟩ <;> first | (exfalso; omega; done) | exact absurd True.intro hb | ((conv => whnf); try simp only [gO, gWe, ne_eq, Nat.reduceEqDiff, not_false_eq_true, true_or, or_true, true_and])) | (refine ⟨by omega, ?_⟩; (conv => whnf); try simp only [gO, gWe, ne_eq, Nat.reduceEqDiff, not_false_eq_true, true_or, or_true, true_and]) | (refine ⟨fun hb => ?_, ?_⟩ <;> first | (exfalso; omega; done) | exact absurd True.intro hb | ((conv => whnf); try simp only [gO, gWe, ne_eq, Nat.reduceEqDiff, not_false_eq_true, true_or, or_true, true_and])) | fail)
        rw [xSpot_c st1, xSpot_c st]
        refine ih _ ((hν.W (by decide)).W (by decide)) (fun c c0 c1 p0 p1 => ?_)
        by_cases hc : c = e
        · subst hc
          simp only [gO, gWe, ne_eq, Nat.reduceEqDiff, not_false_eq_true]
          exact ⟨trivial, trivial⟩
        · simp only [gO, gWn, hc, ne_eq, Nat.reduceEqDiff, not_false_eq_true]
          exact hk c c0 (by omega) p0 p1
      · (conv => whnf); try simp only [gO, gWe, ne_eq, Nat.reduceEqDiff, not_false_eq_true, true_or, or_true, true_and]
        repeat' (first | exact True.intro | (refine ⟨fun hb => ?_, fun hb => ?_⟩ <;> first | (exfalso; omega; done) | exact absurd True.intro hb | ((conv => whnf); try simp only [gO, gWe, ne_eq, Nat.reduceEqDiff, not_false_eq_true, true_or, or_true, true_and])) | (refine ⟨by omega, ?_⟩; (conv => whnf); try simp only [gO, gWe, ne_eq, Nat.reduceEqDiff, not_false_eq_true, true_or, or_true, true_and]) | (refine ⟨fun hb => ?_, ?_⟩ <;> first | (exfalso; omega; done) | exact absurd True.intro hb | ((conv => whnf); try simp only [gO, gWe, ne_eq, Nat.reduceEqDiff, not_false_eq_true, true_or, or_true, true_and])) | fail)
        refine ih ν hν (fun c c0 c1 p0 p1 => ?_)
        by_cases hc : c = e
        · subst hc
          rw [st 14 (by decide) (by decide), st 15 (by decide) (by decide)] at hp
          exact absurd ⟨p0, p1⟩ hp
        · exact hk c c0 (by omega) p0 p1
    · have st : hSt μ ν := hν.st (by decide)
      have hK' : iK ν sq pl := iK_c st (hν.sm (by decide) (by decide) (by decide)) (hν 62 (by decide)) hK
      have m := hK'.1.2.2.1.1
      have eq1 : (ν 1 1) = (μ 1 1) := by rw [st 1 (by decide) (by decide)]
      refine gB_gG [2] 300 ?_
      (conv => whnf); try simp only [gO, gWe, ne_eq, Nat.reduceEqDiff, not_false_eq_true, true_or, or_true, true_and]
      repeat' (first | exact True.intro | (refine ⟨fun hb => ?_, fun hb => ?_⟩ <;> first | (exfalso; omega; done) | exact absurd True.intro hb | ((conv => whnf); try simp only [gO, gWe, ne_eq, Nat.reduceEqDiff, not_false_eq_true, true_or, or_true, true_and])) | (refine ⟨by omega, ?_⟩; (conv => whnf); try simp only [gO, gWe, ne_eq, Nat.reduceEqDiff, not_false_eq_true, true_or, or_true, true_and]) | (refine ⟨fun hb => ?_, ?_⟩ <;> first | (exfalso; omega; done) | exact absurd True.intro hb | ((conv => whnf); try simp only [gO, gWe, ne_eq, Nat.reduceEqDiff, not_false_eq_true, true_or, or_true, true_and])) | fail)
      refine h ν hν (fun c c0 c1 p0 p1 => ?_)
      rw [xSpot_c st]
      rw [st 14 (by decide) (by decide)] at p0
      rw [st 15 (by decide) (by decide)] at p1
      exact hk c c0 (by omega) p0 p1
  exact key 0 (by omega) (by omega) μ gFr.rf (fun c _ _ => by omega)
theorem t_178 {D : Nat} (hD : 4 ≤ D) {μ : MU} {Q : GQ} {e o y : Int} {pl : Int → Int} (hM : iM μ) (hQ : iQ μ pl y) (h0 : 0 ≤ e) (h1 : e < (μ 1 1)) (h2 : 0 ≤ o) (h3 : o < (μ 1 1)) (k1 : xX μ pl y e o = 1 → Q (some (gI (1))) g_SH μ) (k0 : xX μ pl y e o = 0 → Q (some (gI (0))) g_SH μ) : gCall g_T g_F D 178 [gR 61, gI e, gI o, gI y] g_SH μ Q := by
  have G := hM.1.1
  unfold xX at k1 k0
  obtain ⟨d, rfl⟩ := gD (show 1 ≤ D by omega)
  refine gC 300 [] rfl ?_
  (conv => whnf); try simp only [gO, gWe, ne_eq, Nat.reduceEqDiff, not_false_eq_true, true_or, or_true, true_and]
  refine t_172 (by omega) hM h0 h1 (fun hp => ?_) (fun hp => ?_)
  · (conv => whnf); try simp only [gO, gWe, ne_eq, Nat.reduceEqDiff, not_false_eq_true, true_or, or_true, true_and]
    repeat' (first | exact True.intro | (refine ⟨fun hb => ?_, fun hb => ?_⟩ <;> first | (exfalso; omega; done) | exact absurd True.intro hb | ((conv => whnf); try simp only [gO, gWe, ne_eq, Nat.reduceEqDiff, not_false_eq_true, true_or, or_true, true_and])) | (refine ⟨by omega, ?_⟩; (conv => whnf); try simp only [gO, gWe, ne_eq, Nat.reduceEqDiff, not_false_eq_true, true_or, or_true, true_and]) | (refine ⟨fun hb => ?_, ?_⟩ <;> first | (exfalso; omega; done) | exact absurd True.intro hb | ((conv => whnf); try simp only [gO, gWe, ne_eq, Nat.reduceEqDiff, not_false_eq_true, true_or, or_true, true_and])) | fail)
    refine t_172 (by omega) hM h2 h3 (fun hq => ?_) (fun hq => ?_)
    · have a := hQ e h0 h1 hp.1 hp.2
      have b := hQ o h2 h3 hq.1 hq.2
      rw [a.1.symm, b.1.symm, a.2.symm, b.2.symm] at k1 k0
      simp only [g_prod] at k1 k0
      (conv => whnf); try simp only [gO, gWe, ne_eq, Nat.reduceEqDiff, not_false_eq_true, true_or, or_true, true_and]
      repeat' (first | exact True.intro | (refine ⟨fun hb => ?_, fun hb => ?_⟩ <;> first | (exfalso; omega; done) | exact absurd True.intro hb | ((conv => whnf); try simp only [gO, gWe, ne_eq, Nat.reduceEqDiff, not_false_eq_true, true_or, or_true, true_and])) | (refine ⟨by omega, ?_⟩; (conv => whnf); try simp only [gO, gWe, ne_eq, Nat.reduceEqDiff, not_false_eq_true, true_or, or_true, true_and]) | (refine ⟨fun hb => ?_, ?_⟩ <;> first | (exfalso; omega; done) | exact absurd True.intro hb | ((conv => whnf); try simp only [gO, gWe, ne_eq, Nat.reduceEqDiff, not_false_eq_true, true_or, or_true, true_and])) | fail)
      all_goals first | exact k1 (if_pos ⟨hp, hq, by omega⟩) | exact k0 (if_neg (fun hh => by have := hh.2.2; omega))
    · (conv => whnf); try simp only [gO, gWe, ne_eq, Nat.reduceEqDiff, not_false_eq_true, true_or, or_true, true_and]
      repeat' (first | exact True.intro | (refine ⟨fun hb => ?_, fun hb => ?_⟩ <;> first | (exfalso; omega; done) | exact absurd True.intro hb | ((conv => whnf); try simp only [gO, gWe, ne_eq, Nat.reduceEqDiff, not_false_eq_true, true_or, or_true, true_and])) | (refine ⟨by omega, ?_⟩; (conv => whnf); try simp only [gO, gWe, ne_eq, Nat.reduceEqDiff, not_false_eq_true, true_or, or_true, true_and]) | (refine ⟨fun hb => ?_, ?_⟩ <;> first | (exfalso; omega; done) | exact absurd True.intro hb | ((conv => whnf); try simp only [gO, gWe, ne_eq, Nat.reduceEqDiff, not_false_eq_true, true_or, or_true, true_and])) | fail)
      exact k0 (if_neg (fun hh => hq hh.2.1))
  · (conv => whnf); try simp only [gO, gWe, ne_eq, Nat.reduceEqDiff, not_false_eq_true, true_or, or_true, true_and]
    repeat' (first | exact True.intro | (refine ⟨fun hb => ?_, fun hb => ?_⟩ <;> first | (exfalso; omega; done) | exact absurd True.intro hb | ((conv => whnf); try simp only [gO, gWe, ne_eq, Nat.reduceEqDiff, not_false_eq_true, true_or, or_true, true_and])) | (refine ⟨by omega, ?_⟩; (conv => whnf); try simp only [gO, gWe, ne_eq, Nat.reduceEqDiff, not_false_eq_true, true_or, or_true, true_and]) | (refine ⟨fun hb => ?_, ?_⟩ <;> first | (exfalso; omega; done) | exact absurd True.intro hb | ((conv => whnf); try simp only [gO, gWe, ne_eq, Nat.reduceEqDiff, not_false_eq_true, true_or, or_true, true_and])) | fail)
    exact k0 (if_neg (fun hh => hp hh.1))
