variable {sN : Int} {sX : Int → Int}
/-! small methods of the class that read the graph and the layers -/
theorem iE {μ : MU} (hG : iG μ) (hL : iL μ) {e : Int} (h0 : 0 ≤ e) (h1 : e < (μ 1 1)) : (0 ≤ (μ 11) e ∧ (μ 11) e < (μ 1 0)) ∧ (0 ≤ (μ 12) e ∧ (μ 12) e < (μ 1 0)) ∧ (0 ≤ (μ 14) e ∧ (μ 14) e < (μ 15) e ∧ (μ 15) e < (μ 9 1) ∧ (μ 9 1) ≤ 34) ∧ ((μ 14) e = (μ 13) ((μ 11) e) ∧ (μ 15) e = (μ 13) ((μ 12) e)) ∧ ((μ 10) e = 0 ∨ (μ 10) e = 1) ∧ (1 ≤ (μ 8) e ∧ (μ 8) e ≤ 3) := by
  obtain ⟨-, hu⟩ := hL.1 e h0 h1
  obtain ⟨t1, t2, t3⟩ := hL.2.1 e h0 h1
  obtain ⟨g1, g2, g3, g4, g5, g6⟩ := hG.2.2 e h0 h1
  have a1 := hL.2.2.1
  have a2 := hL.2.2.2.1
  rcases hu with ⟨u1, u2, u3⟩ | ⟨u1, u2, u3⟩ <;> simp only [u2, u3] at t1 t2 t3 ⊢ <;>
  · have b1 := a1 _ g1.1 g1.2
    have b2 := a1 _ g2.1 g2.2
    omega
theorem t_81 {D : Nat} (hD : 1 ≤ D) {μ : MU} {Q : GQ} (h : Q (some (gI ((μ 1 1)))) g_SH μ) : gCall g_T g_F sN sX D 81 [gR 0] g_SH μ Q := by
  obtain ⟨d, rfl⟩ := gD (show 1 ≤ D by omega)
  refine gC 300 [] rfl ?_
  (conv => whnf); try simp only [gO, gWe, ne_eq, Nat.reduceEqDiff, not_false_eq_true, true_or, or_true, true_and]
  exact h
theorem t_118 {D : Nat} (hD : 1 ≤ D) {μ : MU} {Q : GQ} {a : Int} (h1 : (0 ≤ a ∧ a < (μ 1 0)) → Q (some (gI (1))) g_SH μ) (h0 : ¬ (0 ≤ a ∧ a < (μ 1 0)) → Q (some (gI (0))) g_SH μ) : gCall g_T g_F sN sX D 118 [gR 0, gI a] g_SH μ Q := by
  obtain ⟨d, rfl⟩ := gD (show 1 ≤ D by omega)
  refine gC 300 [] rfl ?_
  (conv => whnf); try simp only [gO, gWe, ne_eq, Nat.reduceEqDiff, not_false_eq_true, true_or, or_true, true_and]
  repeat' (first | exact True.intro | (refine ⟨fun hb => ?_, fun hb => ?_⟩ <;> first | (exfalso; omega; done) | exact absurd True.intro hb | ((conv => whnf); try simp only [gO, gWe, ne_eq, Nat.reduceEqDiff, not_false_eq_true, true_or, or_true, true_and])) | (refine ⟨by omega, ?_⟩; (conv => whnf); try simp only [gO, gWe, ne_eq, Nat.reduceEqDiff, not_false_eq_true, true_or, or_true, true_and]) | (refine ⟨fun hb => ?_, ?_⟩ <;> first | (exfalso; omega; done) | exact absurd True.intro hb | ((conv => whnf); try simp only [gO, gWe, ne_eq, Nat.reduceEqDiff, not_false_eq_true, true_or, or_true, true_and])) | fail)
  · exact h0 (by omega)
  · exact h0 (by omega)
  · exact h1 (by omega)
theorem t_119 {D : Nat} (hD : 1 ≤ D) {μ : MU} {Q : GQ} {a : Int} (h1 : (0 ≤ a ∧ a < (μ 1 1)) → Q (some (gI (1))) g_SH μ) (h0 : ¬ (0 ≤ a ∧ a < (μ 1 1)) → Q (some (gI (0))) g_SH μ) : gCall g_T g_F sN sX D 119 [gR 0, gI a] g_SH μ Q := by
  obtain ⟨d, rfl⟩ := gD (show 1 ≤ D by omega)
  refine gC 300 [] rfl ?_
  (conv => whnf); try simp only [gO, gWe, ne_eq, Nat.reduceEqDiff, not_false_eq_true, true_or, or_true, true_and]
  repeat' (first | exact True.intro | (refine ⟨fun hb => ?_, fun hb => ?_⟩ <;> first | (exfalso; omega; done) | exact absurd True.intro hb | ((conv => whnf); try simp only [gO, gWe, ne_eq, Nat.reduceEqDiff, not_false_eq_true, true_or, or_true, true_and])) | (refine ⟨by omega, ?_⟩; (conv => whnf); try simp only [gO, gWe, ne_eq, Nat.reduceEqDiff, not_false_eq_true, true_or, or_true, true_and]) | (refine ⟨fun hb => ?_, ?_⟩ <;> first | (exfalso; omega; done) | exact absurd True.intro hb | ((conv => whnf); try simp only [gO, gWe, ne_eq, Nat.reduceEqDiff, not_false_eq_true, true_or, or_true, true_and])) | fail)
  · exact h0 (by omega)
  · exact h0 (by omega)
  · exact h1 (by omega)
theorem t_120 {D : Nat} (hD : 1 ≤ D) {μ : MU} {Q : GQ} {a : Int} (h1 : (0 ≤ a ∧ a < (μ 9 1)) → Q (some (gI (1))) g_SH μ) (h0 : ¬ (0 ≤ a ∧ a < (μ 9 1)) → Q (some (gI (0))) g_SH μ) : gCall g_T g_F sN sX D 120 [gR 0, gI a] g_SH μ Q := by
  obtain ⟨d, rfl⟩ := gD (show 1 ≤ D by omega)
  refine gC 300 [] rfl ?_
  (conv => whnf); try simp only [gO, gWe, ne_eq, Nat.reduceEqDiff, not_false_eq_true, true_or, or_true, true_and]
  repeat' (first | exact True.intro | (refine ⟨fun hb => ?_, fun hb => ?_⟩ <;> first | (exfalso; omega; done) | exact absurd True.intro hb | ((conv => whnf); try simp only [gO, gWe, ne_eq, Nat.reduceEqDiff, not_false_eq_true, true_or, or_true, true_and])) | (refine ⟨by omega, ?_⟩; (conv => whnf); try simp only [gO, gWe, ne_eq, Nat.reduceEqDiff, not_false_eq_true, true_or, or_true, true_and]) | (refine ⟨fun hb => ?_, ?_⟩ <;> first | (exfalso; omega; done) | exact absurd True.intro hb | ((conv => whnf); try simp only [gO, gWe, ne_eq, Nat.reduceEqDiff, not_false_eq_true, true_or, or_true, true_and])) | fail)
  · exact h0 (by omega)
  · exact h0 (by omega)
  · exact h1 (by omega)
theorem t_121 {D : Nat} (hD : 1 ≤ D) {μ : MU} {Q : GQ} {a : Int} (h1 : (0 ≤ a ∧ a < 8) → Q (some (gI (1))) g_SH μ) (h0 : ¬ (0 ≤ a ∧ a < 8) → Q (some (gI (0))) g_SH μ) : gCall g_T g_F sN sX D 121 [gI a] g_SH μ Q := by
  obtain ⟨d, rfl⟩ := gD (show 1 ≤ D by omega)
  refine gC 300 [] rfl ?_
  (conv => whnf); try simp only [gO, gWe, ne_eq, Nat.reduceEqDiff, not_false_eq_true, true_or, or_true, true_and]
  repeat' (first | exact True.intro | (refine ⟨fun hb => ?_, fun hb => ?_⟩ <;> first | (exfalso; omega; done) | exact absurd True.intro hb | ((conv => whnf); try simp only [gO, gWe, ne_eq, Nat.reduceEqDiff, not_false_eq_true, true_or, or_true, true_and])) | (refine ⟨by omega, ?_⟩; (conv => whnf); try simp only [gO, gWe, ne_eq, Nat.reduceEqDiff, not_false_eq_true, true_or, or_true, true_and]) | (refine ⟨fun hb => ?_, ?_⟩ <;> first | (exfalso; omega; done) | exact absurd True.intro hb | ((conv => whnf); try simp only [gO, gWe, ne_eq, Nat.reduceEqDiff, not_false_eq_true, true_or, or_true, true_and])) | fail)
  · exact h0 (by omega)
  · exact h0 (by omega)
  · exact h1 (by omega)
theorem t_122 {D : Nat} (hD : 1 ≤ D) {μ : MU} {Q : GQ} {a : Int} (h1 : (1 ≤ a ∧ a ≤ 3) → Q (some (gI (1))) g_SH μ) (h0 : ¬ (1 ≤ a ∧ a ≤ 3) → Q (some (gI (0))) g_SH μ) : gCall g_T g_F sN sX D 122 [gI a] g_SH μ Q := by
  obtain ⟨d, rfl⟩ := gD (show 1 ≤ D by omega)
  refine gC 300 [] rfl ?_
  (conv => whnf); try simp only [gO, gWe, ne_eq, Nat.reduceEqDiff, not_false_eq_true, true_or, or_true, true_and]
  repeat' (first | exact True.intro | (refine ⟨fun hb => ?_, fun hb => ?_⟩ <;> first | (exfalso; omega; done) | exact absurd True.intro hb | ((conv => whnf); try simp only [gO, gWe, ne_eq, Nat.reduceEqDiff, not_false_eq_true, true_or, or_true, true_and])) | (refine ⟨by omega, ?_⟩; (conv => whnf); try simp only [gO, gWe, ne_eq, Nat.reduceEqDiff, not_false_eq_true, true_or, or_true, true_and]) | (refine ⟨fun hb => ?_, ?_⟩ <;> first | (exfalso; omega; done) | exact absurd True.intro hb | ((conv => whnf); try simp only [gO, gWe, ne_eq, Nat.reduceEqDiff, not_false_eq_true, true_or, or_true, true_and])) | fail)
  · exact h0 (by omega)
  · exact h0 (by omega)
  · exact h1 (by omega)
theorem t_21 {D : Nat} (hD : 1 ≤ D) {μ : MU} {Q : GQ} {e : Int} (hG : iG μ) (hL : iL μ) (h0 : 0 ≤ e) (h1 : e < (μ 1 1)) (h : Q (some (gI ((μ 15) e - (μ 14) e))) g_SH μ) : gCall g_T g_F sN sX D 21 [gR 9, gI e] g_SH μ Q := by
  have E := iE hG hL h0 h1
  have G := hG.1
  obtain ⟨d, rfl⟩ := gD (show 1 ≤ D by omega)
  refine gC 300 [] rfl ?_
  (conv => whnf); try simp only [gO, gWe, ne_eq, Nat.reduceEqDiff, not_false_eq_true, true_or, or_true, true_and]
  repeat' (first | exact True.intro | (refine ⟨fun hb => ?_, fun hb => ?_⟩ <;> first | (exfalso; omega; done) | exact absurd True.intro hb | ((conv => whnf); try simp only [gO, gWe, ne_eq, Nat.reduceEqDiff, not_false_eq_true, true_or, or_true, true_and])) | (refine ⟨by omega, ?_⟩; (conv => whnf); try simp only [gO, gWe, ne_eq, Nat.reduceEqDiff, not_false_eq_true, true_or, or_true, true_and]) | (refine ⟨fun hb => ?_, ?_⟩ <;> first | (exfalso; omega; done) | exact absurd True.intro hb | ((conv => whnf); try simp only [gO, gWe, ne_eq, Nat.reduceEqDiff, not_false_eq_true, true_or, or_true, true_and])) | fail)
  exact h
theorem t_23 {D : Nat} (hD : 1 ≤ D) {μ : MU} {Q : GQ} {e : Int} (hG : iG μ) (hL : iL μ) (h0 : 0 ≤ e) (h1 : e < (μ 1 1)) (h : Q (some (gI (if (μ 10) e = 1 then (μ 7) e else (μ 6) e))) g_SH μ) : gCall g_T g_F sN sX D 23 [gR 9, gI e] g_SH μ Q := by
  have E := iE hG hL h0 h1
  have G := hG.1
  obtain ⟨d, rfl⟩ := gD (show 1 ≤ D by omega)
  refine gC 300 [] rfl ?_
  (conv => whnf); try simp only [gO, gWe, ne_eq, Nat.reduceEqDiff, not_false_eq_true, true_or, or_true, true_and]
  repeat' (first | exact True.intro | (refine ⟨fun hb => ?_, fun hb => ?_⟩ <;> first | (exfalso; omega; done) | exact absurd True.intro hb | ((conv => whnf); try simp only [gO, gWe, ne_eq, Nat.reduceEqDiff, not_false_eq_true, true_or, or_true, true_and])) | (refine ⟨by omega, ?_⟩; (conv => whnf); try simp only [gO, gWe, ne_eq, Nat.reduceEqDiff, not_false_eq_true, true_or, or_true, true_and]) | (refine ⟨fun hb => ?_, ?_⟩ <;> first | (exfalso; omega; done) | exact absurd True.intro hb | ((conv => whnf); try simp only [gO, gWe, ne_eq, Nat.reduceEqDiff, not_false_eq_true, true_or, or_true, true_and])) | fail)
  · rw [if_neg (by omega)] at h
    exact h
  · rw [if_pos (by omega)] at h
    exact h
theorem t_24 {D : Nat} (hD : 1 ≤ D) {μ : MU} {Q : GQ} {e : Int} (hG : iG μ) (hL : iL μ) (h0 : 0 ≤ e) (h1 : e < (μ 1 1)) (h : Q (some (gI (if (μ 10) e = 1 then (μ 6) e else (μ 7) e))) g_SH μ) : gCall g_T g_F sN sX D 24 [gR 9, gI e] g_SH μ Q := by
  have E := iE hG hL h0 h1
  have G := hG.1
  obtain ⟨d, rfl⟩ := gD (show 1 ≤ D by omega)
  refine gC 300 [] rfl ?_
  (conv => whnf); try simp only [gO, gWe, ne_eq, Nat.reduceEqDiff, not_false_eq_true, true_or, or_true, true_and]
  repeat' (first | exact True.intro | (refine ⟨fun hb => ?_, fun hb => ?_⟩ <;> first | (exfalso; omega; done) | exact absurd True.intro hb | ((conv => whnf); try simp only [gO, gWe, ne_eq, Nat.reduceEqDiff, not_false_eq_true, true_or, or_true, true_and])) | (refine ⟨by omega, ?_⟩; (conv => whnf); try simp only [gO, gWe, ne_eq, Nat.reduceEqDiff, not_false_eq_true, true_or, or_true, true_and]) | (refine ⟨fun hb => ?_, ?_⟩ <;> first | (exfalso; omega; done) | exact absurd True.intro hb | ((conv => whnf); try simp only [gO, gWe, ne_eq, Nat.reduceEqDiff, not_false_eq_true, true_or, or_true, true_and])) | fail)
  · rw [if_neg (by omega)] at h
    exact h
  · rw [if_pos (by omega)] at h
    exact h
/-- the whole length -/
def xTot (μ : MU) : Int := gSum (fun e => (μ 15) e - (μ 14) e) (μ 1 1).toNat
theorem xTot_b {μ : MU} (hG : iG μ) (hL : iL μ) {e : Int} (h0 : 0 ≤ e) (h1 : e ≤ (μ 1 1)) : 0 ≤ gSum (fun e => (μ 15) e - (μ 14) e) e.toNat ∧ gSum (fun e => (μ 15) e - (μ 14) e) e.toNat ≤ 34 * e := by
  have b := gSum_b (f := fun e => (μ 15) e - (μ 14) e) (a := 0) (b := 34) e.toNat (fun i i0 i1 => by have := iE hG hL i0 (by omega); show 0 ≤ (μ 15) i - (μ 14) i ∧ _; omega)
  omega
theorem t_22 {D : Nat} (hD : 2 ≤ D) {μ : MU} {Q : GQ} (hG : iG μ) (hL : iL μ) (h : Q (some (gI (xTot μ))) g_SH μ) : gCall g_T g_F sN sX D 22 [gR 9] g_SH μ Q := by
  have G := hG.1
  obtain ⟨d, rfl⟩ := gD (show 1 ≤ D by omega)
  refine gC 300 [4] rfl ?_
  (conv => whnf); try simp only [gO, gWe, ne_eq, Nat.reduceEqDiff, not_false_eq_true, true_or, or_true, true_and]
  have key : ∀ e : Int, 0 ≤ e → e ≤ (μ 1 1) → gG g_T g_F (gCall g_T g_F sN sX d) sN sX (g_T 22) Q 4 [gR 9, gI (gSum (fun e => (μ 15) e - (μ 14) e) e.toNat), gI e] [] g_SH μ 0 0 := by
    refine g_up (fun e h0 h1 ih => ?_) ?_
    · refine gB_gG [4] 300 ?_
      (conv => whnf); try simp only [gO, gWe, ne_eq, Nat.reduceEqDiff, not_false_eq_true, true_or, or_true, true_and]
      repeat' (first | exact True.intro | (refine ⟨fun hb => ?_, fun hb => ?_⟩ <;> first | (exfalso; omega; done) | exact absurd True.intro hb | ((conv => whnf); try simp only [gO, gWe, ne_eq, Nat.reduceEqDiff, not_false_eq_true, true_or, or_true, true_and])) | (refine ⟨by omega, ?_⟩; (conv => whnf); try simp only [gO, gWe, ne_eq, Nat.reduceEqDiff, not_false_eq_true, true_or, or_true, true_and]) | (refine ⟨fun hb => ?_, ?_⟩ <;> first | (exfalso; omega; done) | exact absurd True.intro hb | ((conv => whnf); try simp only [gO, gWe, ne_eq, Nat.reduceEqDiff, not_false_eq_true, true_or, or_true, true_and])) | fail)
      refine t_21 (by omega) hG hL h0 h1 ?_
      (conv => whnf); try simp only [gO, gWe, ne_eq, Nat.reduceEqDiff, not_false_eq_true, true_or, or_true, true_and]
      have b := xTot_b hG hL h0 (by omega)
      have E := iE hG hL h0 h1
      repeat' (first | exact True.intro | (refine ⟨fun hb => ?_, fun hb => ?_⟩ <;> first | (exfalso; omega; done) | exact absurd True.intro hb | ((conv => whnf); try simp only [gO, gWe, ne_eq, Nat.reduceEqDiff, not_false_eq_true, true_or, or_true, true_and])) | (refine ⟨by omega, ?_⟩; (conv => whnf); try simp only [gO, gWe, ne_eq, Nat.reduceEqDiff, not_false_eq_true, true_or, or_true, true_and]) | (refine ⟨fun hb => ?_, ?_⟩ <;> first | (exfalso; omega; done) | exact absurd True.intro hb | ((conv => whnf); try simp only [gO, gWe, ne_eq, Nat.reduceEqDiff, not_false_eq_true, true_or, or_true, true_and])) | fail)
      rw [gSum_s _ _ h0] at ih
      exact ih
    · refine gB_gG [4] 300 ?_
      (conv => whnf); try simp only [gO, gWe, ne_eq, Nat.reduceEqDiff, not_false_eq_true, true_or, or_true, true_and]
      repeat' (first | exact True.intro | (refine ⟨fun hb => ?_, fun hb => ?_⟩ <;> first | (exfalso; omega; done) | exact absurd True.intro hb | ((conv => whnf); try simp only [gO, gWe, ne_eq, Nat.reduceEqDiff, not_false_eq_true, true_or, or_true, true_and])) | (refine ⟨by omega, ?_⟩; (conv => whnf); try simp only [gO, gWe, ne_eq, Nat.reduceEqDiff, not_false_eq_true, true_or, or_true, true_and]) | (refine ⟨fun hb => ?_, ?_⟩ <;> first | (exfalso; omega; done) | exact absurd True.intro hb | ((conv => whnf); try simp only [gO, gWe, ne_eq, Nat.reduceEqDiff, not_false_eq_true, true_or, or_true, true_and])) | fail)
      exact h
  exact key 0 (by omega) (by omega)
theorem t_87 {D : Nat} (hD : 3 ≤ D) {μ : MU} {Q : GQ} (hG : iG μ) (hL : iL μ) (h : Q (some (gI (xTot μ))) g_SH μ) : gCall g_T g_F sN sX D 87 [gR 0] g_SH μ Q := by
  obtain ⟨d, rfl⟩ := gD (show 1 ≤ D by omega)
  refine gC 300 [] rfl ?_
  (conv => whnf); try simp only [gO, gWe, ne_eq, Nat.reduceEqDiff, not_false_eq_true, true_or, or_true, true_and]
  refine t_22 (by omega) hG hL ?_
  (conv => whnf); try simp only [gO, gWe, ne_eq, Nat.reduceEqDiff, not_false_eq_true, true_or, or_true, true_and]
  exact h
theorem t_88 {D : Nat} (hD : 1 ≤ D) {μ : MU} {Q : GQ} (h : Q (some (gI ((μ 9 1)))) g_SH μ) : gCall g_T g_F sN sX D 88 [gR 0] g_SH μ Q := by
  obtain ⟨d, rfl⟩ := gD (show 1 ≤ D by omega)
  refine gC 300 [] rfl ?_
  (conv => whnf); try simp only [gO, gWe, ne_eq, Nat.reduceEqDiff, not_false_eq_true, true_or, or_true, true_and]
  exact h
def xRev (μ : MU) (e : Int) : Int := if 0 ≤ e ∧ e < (μ 1 1) then (μ 10) e else -1
theorem t_83 {D : Nat} (hD : 2 ≤ D) {μ : MU} {Q : GQ} {e : Int} (hG : iG μ) (hL : iL μ) (h : Q (some (gI (xRev μ e))) g_SH μ) : gCall g_T g_F sN sX D 83 [gR 0, gI e] g_SH μ Q := by
  have G := hG.1
  unfold xRev at h
  obtain ⟨d, rfl⟩ := gD (show 1 ≤ D by omega)
  refine gC 300 [] rfl ?_
  (conv => whnf); try simp only [gO, gWe, ne_eq, Nat.reduceEqDiff, not_false_eq_true, true_or, or_true, true_and]
  refine t_119 (by omega) (fun h1 => ?_) (fun h1 => ?_)
  · rw [if_pos h1] at h
    have E := iE hG hL h1.1 h1.2
    (conv => whnf); try simp only [gO, gWe, ne_eq, Nat.reduceEqDiff, not_false_eq_true, true_or, or_true, true_and]
    repeat' (first | exact True.intro | (refine ⟨fun hb => ?_, fun hb => ?_⟩ <;> first | (exfalso; omega; done) | exact absurd True.intro hb | ((conv => whnf); try simp only [gO, gWe, ne_eq, Nat.reduceEqDiff, not_false_eq_true, true_or, or_true, true_and])) | (refine ⟨by omega, ?_⟩; (conv => whnf); try simp only [gO, gWe, ne_eq, Nat.reduceEqDiff, not_false_eq_true, true_or, or_true, true_and]) | (refine ⟨fun hb => ?_, ?_⟩ <;> first | (exfalso; omega; done) | exact absurd True.intro hb | ((conv => whnf); try simp only [gO, gWe, ne_eq, Nat.reduceEqDiff, not_false_eq_true, true_or, or_true, true_and])) | fail)
    · rw [show (μ 10) e = 0 from hb] at h
      exact h
    · rw [show (μ 10) e = 1 by omega] at h
      exact h
  · rw [if_neg h1] at h
    (conv => whnf); try simp only [gO, gWe, ne_eq, Nat.reduceEqDiff, not_false_eq_true, true_or, or_true, true_and]
    repeat' (first | exact True.intro | (refine ⟨fun hb => ?_, fun hb => ?_⟩ <;> first | (exfalso; omega; done) | exact absurd True.intro hb | ((conv => whnf); try simp only [gO, gWe, ne_eq, Nat.reduceEqDiff, not_false_eq_true, true_or, or_true, true_and])) | (refine ⟨by omega, ?_⟩; (conv => whnf); try simp only [gO, gWe, ne_eq, Nat.reduceEqDiff, not_false_eq_true, true_or, or_true, true_and]) | (refine ⟨fun hb => ?_, ?_⟩ <;> first | (exfalso; omega; done) | exact absurd True.intro hb | ((conv => whnf); try simp only [gO, gWe, ne_eq, Nat.reduceEqDiff, not_false_eq_true, true_or, or_true, true_and])) | fail)
    exact h
def xRevs (μ : MU) : Int := gSum (fun e => if (μ 10) e = 1 then 1 else 0) (μ 1 1).toNat
def xLay (μ : MU) (e : Int) : Int := if 0 ≤ e ∧ e < (μ 1 0) then (μ 13) e else -1
theorem t_85 {D : Nat} (hD : 2 ≤ D) {μ : MU} {Q : GQ} {e : Int} (hG : iG μ) (h : Q (some (gI (xLay μ e))) g_SH μ) : gCall g_T g_F sN sX D 85 [gR 0, gI e] g_SH μ Q := by
  have G := hG.1
  unfold xLay at h
  obtain ⟨d, rfl⟩ := gD (show 1 ≤ D by omega)
  refine gC 300 [] rfl ?_
  (conv => whnf); try simp only [gO, gWe, ne_eq, Nat.reduceEqDiff, not_false_eq_true, true_or, or_true, true_and]
  refine t_118 (by omega) (fun h1 => ?_) (fun h1 => ?_)
  · rw [if_pos h1] at h
    (conv => whnf); try simp only [gO, gWe, ne_eq, Nat.reduceEqDiff, not_false_eq_true, true_or, or_true, true_and]
    repeat' (first | exact True.intro | (refine ⟨fun hb => ?_, fun hb => ?_⟩ <;> first | (exfalso; omega; done) | exact absurd True.intro hb | ((conv => whnf); try simp only [gO, gWe, ne_eq, Nat.reduceEqDiff, not_false_eq_true, true_or, or_true, true_and])) | (refine ⟨by omega, ?_⟩; (conv => whnf); try simp only [gO, gWe, ne_eq, Nat.reduceEqDiff, not_false_eq_true, true_or, or_true, true_and]) | (refine ⟨fun hb => ?_, ?_⟩ <;> first | (exfalso; omega; done) | exact absurd True.intro hb | ((conv => whnf); try simp only [gO, gWe, ne_eq, Nat.reduceEqDiff, not_false_eq_true, true_or, or_true, true_and])) | fail)
    exact h
  · rw [if_neg h1] at h
    (conv => whnf); try simp only [gO, gWe, ne_eq, Nat.reduceEqDiff, not_false_eq_true, true_or, or_true, true_and]
    repeat' (first | exact True.intro | (refine ⟨fun hb => ?_, fun hb => ?_⟩ <;> first | (exfalso; omega; done) | exact absurd True.intro hb | ((conv => whnf); try simp only [gO, gWe, ne_eq, Nat.reduceEqDiff, not_false_eq_true, true_or, or_true, true_and])) | (refine ⟨by omega, ?_⟩; (conv => whnf); try simp only [gO, gWe, ne_eq, Nat.reduceEqDiff, not_false_eq_true, true_or, or_true, true_and]) | (refine ⟨fun hb => ?_, ?_⟩ <;> first | (exfalso; omega; done) | exact absurd True.intro hb | ((conv => whnf); try simp only [gO, gWe, ne_eq, Nat.reduceEqDiff, not_false_eq_true, true_or, or_true, true_and])) | fail)
    exact h
def xLen (μ : MU) (e : Int) : Int := if 0 ≤ e ∧ e < (μ 1 1) then (μ 15) e - (μ 14) e else -1
theorem t_86 {D : Nat} (hD : 2 ≤ D) {μ : MU} {Q : GQ} {e : Int} (hG : iG μ) (hL : iL μ) (h : Q (some (gI (xLen μ e))) g_SH μ) : gCall g_T g_F sN sX D 86 [gR 0, gI e] g_SH μ Q := by
  have G := hG.1
  unfold xLen at h
  obtain ⟨d, rfl⟩ := gD (show 1 ≤ D by omega)
  refine gC 300 [] rfl ?_
  (conv => whnf); try simp only [gO, gWe, ne_eq, Nat.reduceEqDiff, not_false_eq_true, true_or, or_true, true_and]
  refine t_119 (by omega) (fun h1 => ?_) (fun h1 => ?_)
  · rw [if_pos h1] at h
    (conv => whnf); try simp only [gO, gWe, ne_eq, Nat.reduceEqDiff, not_false_eq_true, true_or, or_true, true_and]
    repeat' (first | exact True.intro | (refine ⟨fun hb => ?_, fun hb => ?_⟩ <;> first | (exfalso; omega; done) | exact absurd True.intro hb | ((conv => whnf); try simp only [gO, gWe, ne_eq, Nat.reduceEqDiff, not_false_eq_true, true_or, or_true, true_and])) | (refine ⟨by omega, ?_⟩; (conv => whnf); try simp only [gO, gWe, ne_eq, Nat.reduceEqDiff, not_false_eq_true, true_or, or_true, true_and]) | (refine ⟨fun hb => ?_, ?_⟩ <;> first | (exfalso; omega; done) | exact absurd True.intro hb | ((conv => whnf); try simp only [gO, gWe, ne_eq, Nat.reduceEqDiff, not_false_eq_true, true_or, or_true, true_and])) | fail)
    refine t_21 (by omega) hG hL h1.1 h1.2 ?_
    exact h
  · rw [if_neg h1] at h
    (conv => whnf); try simp only [gO, gWe, ne_eq, Nat.reduceEqDiff, not_false_eq_true, true_or, or_true, true_and]
    repeat' (first | exact True.intro | (refine ⟨fun hb => ?_, fun hb => ?_⟩ <;> first | (exfalso; omega; done) | exact absurd True.intro hb | ((conv => whnf); try simp only [gO, gWe, ne_eq, Nat.reduceEqDiff, not_false_eq_true, true_or, or_true, true_and])) | (refine ⟨by omega, ?_⟩; (conv => whnf); try simp only [gO, gWe, ne_eq, Nat.reduceEqDiff, not_false_eq_true, true_or, or_true, true_and]) | (refine ⟨fun hb => ?_, ?_⟩ <;> first | (exfalso; omega; done) | exact absurd True.intro hb | ((conv => whnf); try simp only [gO, gWe, ne_eq, Nat.reduceEqDiff, not_false_eq_true, true_or, or_true, true_and])) | fail)
    exact h
def xEdge (μ : MU) (e w : Int) : Int := if 0 ≤ e ∧ e < (μ 1 1) then (if w = 0 then (μ 4) e else if w = 1 then (μ 5) e else if w = 2 then (μ 6) e else if w = 3 then (μ 7) e else if w = 4 then (μ 8) e else -1) else -1
theorem t_82 {D : Nat} (hD : 2 ≤ D) {μ : MU} {Q : GQ} {e w : Int} (hG : iG μ) (h : Q (some (gI (xEdge μ e w))) g_SH μ) : gCall g_T g_F sN sX D 82 [gR 0, gI e, gI w] g_SH μ Q := by
  have G := hG.1
  unfold xEdge at h
  obtain ⟨d, rfl⟩ := gD (show 1 ≤ D by omega)
  refine gC 300 [] rfl ?_
  (conv => whnf); try simp only [gO, gWe, ne_eq, Nat.reduceEqDiff, not_false_eq_true, true_or, or_true, true_and]
  refine t_119 (by omega) (fun h1 => ?_) (fun h1 => ?_)
  · rw [if_pos h1] at h
    (conv => whnf); try simp only [gO, gWe, ne_eq, Nat.reduceEqDiff, not_false_eq_true, true_or, or_true, true_and]
    repeat' (first | exact True.intro | (refine ⟨fun hb => ?_, fun hb => ?_⟩ <;> first | (exfalso; omega; done) | exact absurd True.intro hb | ((conv => whnf); try simp only [gO, gWe, ne_eq, Nat.reduceEqDiff, not_false_eq_true, true_or, or_true, true_and])) | (refine ⟨by omega, ?_⟩; (conv => whnf); try simp only [gO, gWe, ne_eq, Nat.reduceEqDiff, not_false_eq_true, true_or, or_true, true_and]) | (refine ⟨fun hb => ?_, ?_⟩ <;> first | (exfalso; omega; done) | exact absurd True.intro hb | ((conv => whnf); try simp only [gO, gWe, ne_eq, Nat.reduceEqDiff, not_false_eq_true, true_or, or_true, true_and])) | fail)
    · rw [if_neg (by omega), if_neg (by omega), if_neg (by omega), if_neg (by omega), if_neg (by omega)] at h
      exact h
    · rw [if_pos (by omega)] at h
      exact h
    · rw [if_neg (by omega), if_pos (by omega)] at h
      exact h
    · rw [if_neg (by omega), if_neg (by omega), if_pos (by omega)] at h
      exact h
    · rw [if_neg (by omega), if_neg (by omega), if_neg (by omega), if_pos (by omega)] at h
      exact h
    · rw [if_neg (by omega), if_neg (by omega), if_neg (by omega), if_neg (by omega), if_pos (by omega)] at h
      exact h
  · rw [if_neg h1] at h
    (conv => whnf); try simp only [gO, gWe, ne_eq, Nat.reduceEqDiff, not_false_eq_true, true_or, or_true, true_and]
    repeat' (first | exact True.intro | (refine ⟨fun hb => ?_, fun hb => ?_⟩ <;> first | (exfalso; omega; done) | exact absurd True.intro hb | ((conv => whnf); try simp only [gO, gWe, ne_eq, Nat.reduceEqDiff, not_false_eq_true, true_or, or_true, true_and])) | (refine ⟨by omega, ?_⟩; (conv => whnf); try simp only [gO, gWe, ne_eq, Nat.reduceEqDiff, not_false_eq_true, true_or, or_true, true_and]) | (refine ⟨fun hb => ?_, ?_⟩ <;> first | (exfalso; omega; done) | exact absurd True.intro hb | ((conv => whnf); try simp only [gO, gWe, ne_eq, Nat.reduceEqDiff, not_false_eq_true, true_or, or_true, true_and])) | fail)
    exact h
