variable {sN : Int} {sX : Int → Int}
/-! the case keep -/
theorem gCp_i {μ : MU} {a b : Nat} {n j : Int} (j0 : 0 ≤ j) (j1 : j < n) : gCp μ a 0 b 0 n b j = μ a j := by
  show (if b = b then (fun j => if 0 ≤ j ∧ j < 0 + n then μ a (0 + (j - 0)) else μ b j) else μ b) j = μ a j
  rw [if_pos rfl]
  show (if 0 ≤ j ∧ j < 0 + n then μ a (0 + (j - 0)) else μ b j) = μ a j
  rw [if_pos (by omega), show (0 : Int) + (j - 0) = j by omega]
theorem gCp_n {μ : MU} {a b c : Nat} {sp dp n : Int} (h : c ≠ b) : gCp μ a sp b dp n c = μ c := if_neg h
theorem gFr.C {l : List Nat} {μ ν : MU} {a b : Nat} {sp dp n : Int} (h : gFr l μ ν) (hb : b ∈ l) : gFr l μ (gCp ν a sp b dp n) := fun c hc => by
  rw [gCp_n (fun e => hc (by rw [e]; exact hb))]
  exact h c hc
theorem t_18k_40 {D : Nat} (hD : 1 ≤ D) {μ : MU} {Q : GQ} (h : ∀ ν : MU, gFr [40, 40 + 1, 40 + 2, 40 + 3, 40 + 4, 40 + 5, 40 + 6, 40 + 7] μ ν → (ν 40 0 = μ 1 0 ∧ ν 40 1 = μ 1 1) → (∀ i : Int, 0 ≤ i → i < 12 → ν (40 + 1) i = μ 2 i ∧ ν (40 + 2) i = μ 3 i) → (∀ e : Int, 0 ≤ e → e < 20 → ν (40 + 3) e = μ 4 e ∧ ν (40 + 4) e = μ 5 e ∧ ν (40 + 5) e = μ 6 e ∧ ν (40 + 6) e = μ 7 e ∧ ν (40 + 7) e = μ 8 e) → Q none g_SH ν) : gCall g_T g_F sN sX D 18 [gR 40, gR 1] g_SH μ Q := by
  obtain ⟨d, rfl⟩ := gD (show 1 ≤ D by omega)
  refine gC 300 [] rfl ?_
  (conv => whnf); try simp only [gO, gWe, ne_eq, Nat.reduceEqDiff, not_false_eq_true, true_or, or_true, true_and]
  repeat' (first | exact True.intro | (refine ⟨fun hb => ?_, fun hb => ?_⟩ <;> first | (exfalso; omega; done) | exact absurd True.intro hb | ((conv => whnf); try simp only [gO, gWe, ne_eq, Nat.reduceEqDiff, not_false_eq_true, true_or, or_true, true_and])) | (refine ⟨by omega, ?_⟩; (conv => whnf); try simp only [gO, gWe, ne_eq, Nat.reduceEqDiff, not_false_eq_true, true_or, or_true, true_and]) | (refine ⟨fun hb => ?_, ?_⟩ <;> first | (exfalso; omega; done) | exact absurd True.intro hb | ((conv => whnf); try simp only [gO, gWe, ne_eq, Nat.reduceEqDiff, not_false_eq_true, true_or, or_true, true_and])) | fail)
  refine h _ (((((((((gFr.rf.W (by decide)).W (by decide)).C (by decide)).C (by decide)).C (by decide)).C (by decide)).C (by decide)).C (by decide)).C (by decide)) ⟨?_, ?_⟩ (fun i i0 i1 => ⟨?_, ?_⟩) (fun e e0 e1 => ⟨?_, ?_, ?_, ?_, ?_⟩)
  · show gW (gW μ 40 0 (μ 1 0)) 40 1 (μ 1 1) 40 0 = _
    rw [gWn _ _ _ (by decide), gWe]
  · show gW (gW μ 40 0 (μ 1 0)) 40 1 (μ 1 1) 40 1 = _
    exact gWe _ _ _ _
  · rw [gCp_n (by decide), gCp_n (by decide), gCp_n (by decide), gCp_n (by decide), gCp_n (by decide), gCp_n (by decide), gCp_i i0 i1]; rfl
  · rw [gCp_n (by decide), gCp_n (by decide), gCp_n (by decide), gCp_n (by decide), gCp_n (by decide), gCp_i i0 i1]; rfl
  · rw [gCp_n (by decide), gCp_n (by decide), gCp_n (by decide), gCp_n (by decide), gCp_i e0 e1]; rfl
  · rw [gCp_n (by decide), gCp_n (by decide), gCp_n (by decide), gCp_i e0 e1]; rfl
  · rw [gCp_n (by decide), gCp_n (by decide), gCp_i e0 e1]; rfl
  · rw [gCp_n (by decide), gCp_i e0 e1]; rfl
  · rw [gCp_i e0 e1]; rfl
theorem t_18r_40 {D : Nat} (hD : 1 ≤ D) {μ : MU} {Q : GQ} (h : ∀ ν : MU, gFr [1, 2, 3, 4, 5, 6, 7, 8] μ ν → (ν 1 0 = μ 40 0 ∧ ν 1 1 = μ 40 1) → (∀ i : Int, 0 ≤ i → i < 12 → ν 2 i = μ (40 + 1) i ∧ ν 3 i = μ (40 + 2) i) → (∀ e : Int, 0 ≤ e → e < 20 → ν 4 e = μ (40 + 3) e ∧ ν 5 e = μ (40 + 4) e ∧ ν 6 e = μ (40 + 5) e ∧ ν 7 e = μ (40 + 6) e ∧ ν 8 e = μ (40 + 7) e) → Q none g_SH ν) : gCall g_T g_F sN sX D 18 [gR 1, gR 40] g_SH μ Q := by
  obtain ⟨d, rfl⟩ := gD (show 1 ≤ D by omega)
  refine gC 300 [] rfl ?_
  (conv => whnf); try simp only [gO, gWe, ne_eq, Nat.reduceEqDiff, not_false_eq_true, true_or, or_true, true_and]
  repeat' (first | exact True.intro | (refine ⟨fun hb => ?_, fun hb => ?_⟩ <;> first | (exfalso; omega; done) | exact absurd True.intro hb | ((conv => whnf); try simp only [gO, gWe, ne_eq, Nat.reduceEqDiff, not_false_eq_true, true_or, or_true, true_and])) | (refine ⟨by omega, ?_⟩; (conv => whnf); try simp only [gO, gWe, ne_eq, Nat.reduceEqDiff, not_false_eq_true, true_or, or_true, true_and]) | (refine ⟨fun hb => ?_, ?_⟩ <;> first | (exfalso; omega; done) | exact absurd True.intro hb | ((conv => whnf); try simp only [gO, gWe, ne_eq, Nat.reduceEqDiff, not_false_eq_true, true_or, or_true, true_and])) | fail)
  refine h _ (((((((((gFr.rf.W (by decide)).W (by decide)).C (by decide)).C (by decide)).C (by decide)).C (by decide)).C (by decide)).C (by decide)).C (by decide)) ⟨?_, ?_⟩ (fun i i0 i1 => ⟨?_, ?_⟩) (fun e e0 e1 => ⟨?_, ?_, ?_, ?_, ?_⟩)
  · show gW (gW μ 1 0 (μ 40 0)) 1 1 (μ 40 1) 1 0 = _
    rw [gWn _ _ _ (by decide), gWe]
  · show gW (gW μ 1 0 (μ 40 0)) 1 1 (μ 40 1) 1 1 = _
    exact gWe _ _ _ _
  · rw [gCp_n (by decide), gCp_n (by decide), gCp_n (by decide), gCp_n (by decide), gCp_n (by decide), gCp_n (by decide), gCp_i i0 i1]; rfl
  · rw [gCp_n (by decide), gCp_n (by decide), gCp_n (by decide), gCp_n (by decide), gCp_n (by decide), gCp_i i0 i1]; rfl
  · rw [gCp_n (by decide), gCp_n (by decide), gCp_n (by decide), gCp_n (by decide), gCp_i e0 e1]; rfl
  · rw [gCp_n (by decide), gCp_n (by decide), gCp_n (by decide), gCp_i e0 e1]; rfl
  · rw [gCp_n (by decide), gCp_n (by decide), gCp_i e0 e1]; rfl
  · rw [gCp_n (by decide), gCp_i e0 e1]; rfl
  · rw [gCp_i e0 e1]; rfl
theorem t_18k_51 {D : Nat} (hD : 1 ≤ D) {μ : MU} {Q : GQ} (h : ∀ ν : MU, gFr [51, 51 + 1, 51 + 2, 51 + 3, 51 + 4, 51 + 5, 51 + 6, 51 + 7] μ ν → (ν 51 0 = μ 1 0 ∧ ν 51 1 = μ 1 1) → (∀ i : Int, 0 ≤ i → i < 12 → ν (51 + 1) i = μ 2 i ∧ ν (51 + 2) i = μ 3 i) → (∀ e : Int, 0 ≤ e → e < 20 → ν (51 + 3) e = μ 4 e ∧ ν (51 + 4) e = μ 5 e ∧ ν (51 + 5) e = μ 6 e ∧ ν (51 + 6) e = μ 7 e ∧ ν (51 + 7) e = μ 8 e) → Q none g_SH ν) : gCall g_T g_F sN sX D 18 [gR 51, gR 1] g_SH μ Q := by
  obtain ⟨d, rfl⟩ := gD (show 1 ≤ D by omega)
  refine gC 300 [] rfl ?_
  (conv => whnf); try simp only [gO, gWe, ne_eq, Nat.reduceEqDiff, not_false_eq_true, true_or, or_true, true_and]
  repeat' (first | exact True.intro | (refine ⟨fun hb => ?_, fun hb => ?_⟩ <;> first | (exfalso; omega; done) | exact absurd True.intro hb | ((conv => whnf); try simp only [gO, gWe, ne_eq, Nat.reduceEqDiff, not_false_eq_true, true_or, or_true, true_and])) | (refine ⟨by omega, ?_⟩; (conv => whnf); try simp only [gO, gWe, ne_eq, Nat.reduceEqDiff, not_false_eq_true, true_or, or_true, true_and]) | (refine ⟨fun hb => ?_, ?_⟩ <;> first | (exfalso; omega; done) | exact absurd True.intro hb | ((conv => whnf); try simp only [gO, gWe, ne_eq, Nat.reduceEqDiff, not_false_eq_true, true_or, or_true, true_and])) | fail)
  refine h _ (((((((((gFr.rf.W (by decide)).W (by decide)).C (by decide)).C (by decide)).C (by decide)).C (by decide)).C (by decide)).C (by decide)).C (by decide)) ⟨?_, ?_⟩ (fun i i0 i1 => ⟨?_, ?_⟩) (fun e e0 e1 => ⟨?_, ?_, ?_, ?_, ?_⟩)
  · show gW (gW μ 51 0 (μ 1 0)) 51 1 (μ 1 1) 51 0 = _
    rw [gWn _ _ _ (by decide), gWe]
  · show gW (gW μ 51 0 (μ 1 0)) 51 1 (μ 1 1) 51 1 = _
    exact gWe _ _ _ _
  · rw [gCp_n (by decide), gCp_n (by decide), gCp_n (by decide), gCp_n (by decide), gCp_n (by decide), gCp_n (by decide), gCp_i i0 i1]; rfl
  · rw [gCp_n (by decide), gCp_n (by decide), gCp_n (by decide), gCp_n (by decide), gCp_n (by decide), gCp_i i0 i1]; rfl
  · rw [gCp_n (by decide), gCp_n (by decide), gCp_n (by decide), gCp_n (by decide), gCp_i e0 e1]; rfl
  · rw [gCp_n (by decide), gCp_n (by decide), gCp_n (by decide), gCp_i e0 e1]; rfl
  · rw [gCp_n (by decide), gCp_n (by decide), gCp_i e0 e1]; rfl
  · rw [gCp_n (by decide), gCp_i e0 e1]; rfl
  · rw [gCp_i e0 e1]; rfl
theorem t_18r_51 {D : Nat} (hD : 1 ≤ D) {μ : MU} {Q : GQ} (h : ∀ ν : MU, gFr [1, 2, 3, 4, 5, 6, 7, 8] μ ν → (ν 1 0 = μ 51 0 ∧ ν 1 1 = μ 51 1) → (∀ i : Int, 0 ≤ i → i < 12 → ν 2 i = μ (51 + 1) i ∧ ν 3 i = μ (51 + 2) i) → (∀ e : Int, 0 ≤ e → e < 20 → ν 4 e = μ (51 + 3) e ∧ ν 5 e = μ (51 + 4) e ∧ ν 6 e = μ (51 + 5) e ∧ ν 7 e = μ (51 + 6) e ∧ ν 8 e = μ (51 + 7) e) → Q none g_SH ν) : gCall g_T g_F sN sX D 18 [gR 1, gR 51] g_SH μ Q := by
  obtain ⟨d, rfl⟩ := gD (show 1 ≤ D by omega)
  refine gC 300 [] rfl ?_
  (conv => whnf); try simp only [gO, gWe, ne_eq, Nat.reduceEqDiff, not_false_eq_true, true_or, or_true, true_and]
  repeat' (first | exact True.intro | (refine ⟨fun hb => ?_, fun hb => ?_⟩ <;> first | (exfalso; omega; done) | exact absurd True.intro hb | ((conv => whnf); try simp only [gO, gWe, ne_eq, Nat.reduceEqDiff, not_false_eq_true, true_or, or_true, true_and])) | (refine ⟨by omega, ?_⟩; (conv => whnf); try simp only [gO, gWe, ne_eq, Nat.reduceEqDiff, not_false_eq_true, true_or, or_true, true_and]) | (refine ⟨fun hb => ?_, ?_⟩ <;> first | (exfalso; omega; done) | exact absurd True.intro hb | ((conv => whnf); try simp only [gO, gWe, ne_eq, Nat.reduceEqDiff, not_false_eq_true, true_or, or_true, true_and])) | fail)
  refine h _ (((((((((gFr.rf.W (by decide)).W (by decide)).C (by decide)).C (by decide)).C (by decide)).C (by decide)).C (by decide)).C (by decide)).C (by decide)) ⟨?_, ?_⟩ (fun i i0 i1 => ⟨?_, ?_⟩) (fun e e0 e1 => ⟨?_, ?_, ?_, ?_, ?_⟩)
  · show gW (gW μ 1 0 (μ 51 0)) 1 1 (μ 51 1) 1 0 = _
    rw [gWn _ _ _ (by decide), gWe]
  · show gW (gW μ 1 0 (μ 51 0)) 1 1 (μ 51 1) 1 1 = _
    exact gWe _ _ _ _
  · rw [gCp_n (by decide), gCp_n (by decide), gCp_n (by decide), gCp_n (by decide), gCp_n (by decide), gCp_n (by decide), gCp_i i0 i1]; rfl
  · rw [gCp_n (by decide), gCp_n (by decide), gCp_n (by decide), gCp_n (by decide), gCp_n (by decide), gCp_i i0 i1]; rfl
  · rw [gCp_n (by decide), gCp_n (by decide), gCp_n (by decide), gCp_n (by decide), gCp_i e0 e1]; rfl
  · rw [gCp_n (by decide), gCp_n (by decide), gCp_n (by decide), gCp_i e0 e1]; rfl
  · rw [gCp_n (by decide), gCp_n (by decide), gCp_i e0 e1]; rfl
  · rw [gCp_n (by decide), gCp_i e0 e1]; rfl
  · rw [gCp_i e0 e1]; rfl
