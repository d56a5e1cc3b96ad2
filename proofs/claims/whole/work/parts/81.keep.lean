/-! the case keep -/
theorem gCp_i {μ : MU} {a b : Nat} {n j : Int} (j0 : 0 ≤ j) (j1 : j < n) : gCp μ a 0 b 0 n b j = μ a j := by
  show (if b = b then (fun j => if 0 ≤ j ∧ j < 0 + n then μ a (0 + (j - 0)) else μ b j) else μ b) j = μ a j
  rw [if_pos rfl]
  show (if 0 ≤ j ∧ j < 0 + n then μ a (0 + (j - 0)) else μ b j) = μ a j
  rw [if_pos (by omega), show (0 : Int) + (j - 0) = j by omega]
theorem gCp_n {μ : MU} {a b c : Nat} {sp dp n : Int} (h : c ≠ b) : gCp μ a sp b dp n c = μ c := if_neg h
theorem gFr.C {l : List Nat} {μ ν : MU} {a b : Nat} {sp dp n : Int} (h : gFr l μ ν) (hb : b ∈ l) : gFr l μ (gCp ν a sp b dp n) := fun c hc => by
  rw [gCp_n (fun e => hc (by rw [e]; exact hb))]
  exact h c hc
theorem iS0_c {μ τ : MU} (h : ∀ c : Nat, 39 ≤ c → c ≤ 49 → τ c = μ c) (hk : ∀ k : Int, 0 ≤ k → k < 289 → τ 63 (0 + k) = μ 63 (0 + k)) (h4 : τ 64 0 = μ 64 0) (x : iS0 μ) : iS0 τ := by
  unfold iS0 at *
  rw [h4, h 39 (by decide) (by decide), h 40 (by decide) (by decide), h 41 (by decide) (by decide), h 42 (by decide) (by decide), h 43 (by decide) (by decide), h 44 (by decide) (by decide), h 45 (by decide) (by decide), h 46 (by decide) (by decide), h 47 (by decide) (by decide), h 48 (by decide) (by decide), h 49 (by decide) (by decide)]
  refine ⟨x.1, x.2.1, fun hf => ?_⟩
  obtain ⟨ρ, a, b, c, d⟩ := x.2.2 hf
  exact ⟨ρ, a, b, fun k k0 k1 => by rw [hk k k0 k1]; exact c k k0 k1, d⟩
theorem iS1_c {μ τ : MU} (h : ∀ c : Nat, 50 ≤ c → c ≤ 60 → τ c = μ c) (hk : ∀ k : Int, 0 ≤ k → k < 289 → τ 63 (289 + k) = μ 63 (289 + k)) (h4 : τ 64 1 = μ 64 1) (x : iS1 μ) : iS1 τ := by
  unfold iS1 at *
  rw [h4, h 50 (by decide) (by decide), h 51 (by decide) (by decide), h 52 (by decide) (by decide), h 53 (by decide) (by decide), h 54 (by decide) (by decide), h 55 (by decide) (by decide), h 56 (by decide) (by decide), h 57 (by decide) (by decide), h 58 (by decide) (by decide), h 59 (by decide) (by decide), h 60 (by decide) (by decide)]
  refine ⟨x.1, x.2.1, fun hf => ?_⟩
  obtain ⟨ρ, a, b, c, d⟩ := x.2.2 hf
  exact ⟨ρ, a, b, fun k k0 k1 => by rw [hk k k0 k1]; exact c k k0 k1, d⟩
theorem t_18k_40 {D : Nat} (hD : 1 ≤ D) {μ : MU} {Q : GQ} (h : ∀ ν : MU, gFr [40, 40 + 1, 40 + 2, 40 + 3, 40 + 4, 40 + 5, 40 + 6, 40 + 7] μ ν → (ν 40 0 = μ 1 0 ∧ ν 40 1 = μ 1 1) → (∀ i : Int, 0 ≤ i → i < 12 → ν (40 + 1) i = μ 2 i ∧ ν (40 + 2) i = μ 3 i) → (∀ e : Int, 0 ≤ e → e < 20 → ν (40 + 3) e = μ 4 e ∧ ν (40 + 4) e = μ 5 e ∧ ν (40 + 5) e = μ 6 e ∧ ν (40 + 6) e = μ 7 e ∧ ν (40 + 7) e = μ 8 e) → Q none g_SH ν) : gCall g_T g_F D 18 [gR 40, gR 1] g_SH μ Q := by
  obtain ⟨d, rfl⟩ := gD (show 1 ≤ D by omega)
  refine gC 300 [] rfl ?_
  (conv => whnf); try simp only [gO, gWe, ne_eq, Nat.reduceEqDiff, not_false_eq_true, true_or, or_true, true_and]
  repeat' (first | exact True.intro | (refine ⟨fun hb => ?_, fun hb => ?_⟩ <;> first | (exfalso; omega; done) | exact absurd True.intro hb | ((conv => whnf); try simp only [gO, gWe, ne_eq, Nat.reduceEqDiff, not_false_eq_true, true_or, or_true, true_and])) | (refine ⟨by omega, ?_⟩; (conv => whnf); try simp only [gO, gWe, ne_eq, Nat.reduceEqDiff, not_false_eq_true, true_or, or_true, true_and]) | (refine ⟨fun hb => ?_, ?_⟩ <;> first | (exfalso; omega; done) | exact absurd True.intro hb | ((conv => whnf); try simp only [gO, gWe, ne_eq, Nat.reduceEqDiff, not_false_eq_true, true_or, or_true, true_and])) | fail)
  refine h _ (((((((((gFr.rf.W (by decide)).W (by decide)).C (by decide)).C (by decide)).C (by decide)).C (by decide)).C (by decide)).C (by decide)).C (by decide)) ⟨?_, ?_⟩ (fun i i0 i1 => ⟨?_, ?_⟩) (fun e e0 e1 => ⟨?_, ?_, ?_, ?_, ?_⟩)
  · show gW (gW μ 40 0 (μ 1 0)) 40 1 (μ 1 1) 40 0 = _
    rw [gWn _ _ _ (by decide), gWe]
  · show gW (gW μ 40 0 (μ 1 0)) 40 1 (μ 1 1) 40 1 = _
    exact gWe _ _ _ _
  · rw [gCp_n (by decide), gCp_n (by decide), gCp_n (by decide), gCp_n (by decide), gCp_n (by decide), gCp_n (by decide), gCp_i i0 i1]; rfl
  · rw [gCp_n (by decide), gCp_n (by decide), gCp_n (by decide), gCp_n (by decide), gCp_n (by decide), gCp_i i0 i1]; rfl
  · rw [gCp_n (by decide), gCp_n (by decide), gCp_n (by decide), gCp_n (by decide), gCp_i e0 e1]; rfl
  · rw [gCp_n (by decide), gCp_n (by decide), gCp_n (by decide), gCp_i e0 e1]; rfl
  · rw [gCp_n (by decide), gCp_n (by decide), gCp_i e0 e1]; rfl
  · rw [gCp_n (by decide), gCp_i e0 e1]; rfl
  · rw [gCp_i e0 e1]; rfl
theorem t_18r_40 {D : Nat} (hD : 1 ≤ D) {μ : MU} {Q : GQ} (h : ∀ ν : MU, gFr [1, 2, 3, 4, 5, 6, 7, 8] μ ν → (ν 1 0 = μ 40 0 ∧ ν 1 1 = μ 40 1) → (∀ i : Int, 0 ≤ i → i < 12 → ν 2 i = μ (40 + 1) i ∧ ν 3 i = μ (40 + 2) i) → (∀ e : Int, 0 ≤ e → e < 20 → ν 4 e = μ (40 + 3) e ∧ ν 5 e = μ (40 + 4) e ∧ ν 6 e = μ (40 + 5) e ∧ ν 7 e = μ (40 + 6) e ∧ ν 8 e = μ (40 + 7) e) → Q none g_SH ν) : gCall g_T g_F D 18 [gR 1, gR 40] g_SH μ Q := by
  obtain ⟨d, rfl⟩ := gD (show 1 ≤ D by omega)
  refine gC 300 [] rfl ?_
  (conv => whnf); try simp only [gO, gWe, ne_eq, Nat.reduceEqDiff, not_false_eq_true, true_or, or_true, true_and]
  repeat' (first | exact True.intro | (refine ⟨fun hb => ?_, fun hb => ?_⟩ <;> first | (exfalso; omega; done) | exact absurd True.intro hb | ((conv => whnf); try simp only [gO, gWe, ne_eq, Nat.reduceEqDiff, not_false_eq_true, true_or, or_true, true_and])) | (refine ⟨by omega, ?_⟩; (conv => whnf); try simp only [gO, gWe, ne_eq, Nat.reduceEqDiff, not_false_eq_true, true_or, or_true, true_and]) | (refine ⟨fun hb => ?_, ?_⟩ <;> first | (exfalso; omega; done) | exact absurd True.intro hb | ((conv => whnf); try simp only [gO, gWe, ne_eq, Nat.reduceEqDiff, not_false_eq_true, true_or, or_true, true_and])) | fail)
  refine h _ (((((((((gFr.rf.W (by decide)).W (by decide)).C (by decide)).C (by decide)).C (by decide)).C (by decide)).C (by decide)).C (by decide)).C (by decide)) ⟨?_, ?_⟩ (fun i i0 i1 => ⟨?_, ?_⟩) (fun e e0 e1 => ⟨?_, ?_, ?_, ?_, ?_⟩)
  · show gW (gW μ 1 0 (μ 40 0)) 1 1 (μ 40 1) 1 0 = _
    rw [gWn _ _ _ (by decide), gWe]
  · show gW (gW μ 1 0 (μ 40 0)) 1 1 (μ 40 1) 1 1 = _
    exact gWe _ _ _ _
  · rw [gCp_n (by decide), gCp_n (by decide), gCp_n (by decide), gCp_n (by decide), gCp_n (by decide), gCp_n (by decide), gCp_i i0 i1]; rfl
  · rw [gCp_n (by decide), gCp_n (by decide), gCp_n (by decide), gCp_n (by decide), gCp_n (by decide), gCp_i i0 i1]; rfl
  · rw [gCp_n (by decide), gCp_n (by decide), gCp_n (by decide), gCp_n (by decide), gCp_i e0 e1]; rfl
  · rw [gCp_n (by decide), gCp_n (by decide), gCp_n (by decide), gCp_i e0 e1]; rfl
  · rw [gCp_n (by decide), gCp_n (by decide), gCp_i e0 e1]; rfl
  · rw [gCp_n (by decide), gCp_i e0 e1]; rfl
  · rw [gCp_i e0 e1]; rfl
theorem t_18k_51 {D : Nat} (hD : 1 ≤ D) {μ : MU} {Q : GQ} (h : ∀ ν : MU, gFr [51, 51 + 1, 51 + 2, 51 + 3, 51 + 4, 51 + 5, 51 + 6, 51 + 7] μ ν → (ν 51 0 = μ 1 0 ∧ ν 51 1 = μ 1 1) → (∀ i : Int, 0 ≤ i → i < 12 → ν (51 + 1) i = μ 2 i ∧ ν (51 + 2) i = μ 3 i) → (∀ e : Int, 0 ≤ e → e < 20 → ν (51 + 3) e = μ 4 e ∧ ν (51 + 4) e = μ 5 e ∧ ν (51 + 5) e = μ 6 e ∧ ν (51 + 6) e = μ 7 e ∧ ν (51 + 7) e = μ 8 e) → Q none g_SH ν) : gCall g_T g_F D 18 [gR 51, gR 1] g_SH μ Q := by
  obtain ⟨d, rfl⟩ := gD (show 1 ≤ D by omega)
  refine gC 300 [] rfl ?_
  (conv => whnf); try simp only [gO, gWe, ne_eq, Nat.reduceEqDiff, not_false_eq_true, true_or, or_true, true_and]
  repeat' (first | exact True.intro | (refine ⟨fun hb => ?_, fun hb => ?_⟩ <;> first | (exfalso; omega; done) | exact absurd True.intro hb | ((conv => whnf); try simp only [gO, gWe, ne_eq, Nat.reduceEqDiff, not_false_eq_true, true_or, or_true, true_and])) | (refine ⟨by omega, ?_⟩; (conv => whnf); try simp only [gO, gWe, ne_eq, Nat.reduceEqDiff, not_false_eq_true, true_or, or_true, true_and]) | (refine ⟨fun hb => ?_, ?_⟩ <;> first | (exfalso; omega; done) | exact absurd True.intro hb | ((conv => whnf); try simp only [gO, gWe, ne_eq, Nat.reduceEqDiff, not_false_eq_true, true_or, or_true, true_and])) | fail)
  refine h _ (((((((((gFr.rf.W (by decide)).W (by decide)).C (by decide)).C (by decide)).C (by decide)).C (by decide)).C (by decide)).C (by decide)).C (by decide)) ⟨?_, ?_⟩ (fun i i0 i1 => ⟨?_, ?_⟩) (fun e e0 e1 => ⟨?_, ?_, ?_, ?_, ?_⟩)
  · show gW (gW μ 51 0 (μ 1 0)) 51 1 (μ 1 1) 51 0 = _
    rw [gWn _ _ _ (by decide), gWe]
  · show gW (gW μ 51 0 (μ 1 0)) 51 1 (μ 1 1) 51 1 = _
    exact gWe _ _ _ _
  · rw [gCp_n (by decide), gCp_n (by decide), gCp_n (by decide), gCp_n (by decide), gCp_n (by decide), gCp_n (by decide), gCp_i i0 i1]; rfl
  · rw [gCp_n (by decide), gCp_n (by decide), gCp_n (by decide), gCp_n (by decide), gCp_n (by decide), gCp_i i0 i1]; rfl
  · rw [gCp_n (by decide), gCp_n (by decide), gCp_n (by decide), gCp_n (by decide), gCp_i e0 e1]; rfl
  · rw [gCp_n (by decide), gCp_n (by decide), gCp_n (by decide), gCp_i e0 e1]; rfl
  · rw [gCp_n (by decide), gCp_n (by decide), gCp_i e0 e1]; rfl
  · rw [gCp_n (by decide), gCp_i e0 e1]; rfl
  · rw [gCp_i e0 e1]; rfl
theorem t_18r_51 {D : Nat} (hD : 1 ≤ D) {μ : MU} {Q : GQ} (h : ∀ ν : MU, gFr [1, 2, 3, 4, 5, 6, 7, 8] μ ν → (ν 1 0 = μ 51 0 ∧ ν 1 1 = μ 51 1) → (∀ i : Int, 0 ≤ i → i < 12 → ν 2 i = μ (51 + 1) i ∧ ν 3 i = μ (51 + 2) i) → (∀ e : Int, 0 ≤ e → e < 20 → ν 4 e = μ (51 + 3) e ∧ ν 5 e = μ (51 + 4) e ∧ ν 6 e = μ (51 + 5) e ∧ ν 7 e = μ (51 + 6) e ∧ ν 8 e = μ (51 + 7) e) → Q none g_SH ν) : gCall g_T g_F D 18 [gR 1, gR 51] g_SH μ Q := by
  obtain ⟨d, rfl⟩ := gD (show 1 ≤ D by omega)
  refine gC 300 [] rfl ?_
  (conv => whnf); try simp only [gO, gWe, ne_eq, Nat.reduceEqDiff, not_false_eq_true, true_or, or_true, true_and]
  repeat' (first | exact True.intro | (refine ⟨fun hb => ?_, fun hb => ?_⟩ <;> first | (exfalso; omega; done) | exact absurd True.intro hb | ((conv => whnf); try simp only [gO, gWe, ne_eq, Nat.reduceEqDiff, not_false_eq_true, true_or, or_true, true_and])) | (refine ⟨by omega, ?_⟩; (conv => whnf); try simp only [gO, gWe, ne_eq, Nat.reduceEqDiff, not_false_eq_true, true_or, or_true, true_and]) | (refine ⟨fun hb => ?_, ?_⟩ <;> first | (exfalso; omega; done) | exact absurd True.intro hb | ((conv => whnf); try simp only [gO, gWe, ne_eq, Nat.reduceEqDiff, not_false_eq_true, true_or, or_true, true_and])) | fail)
  refine h _ (((((((((gFr.rf.W (by decide)).W (by decide)).C (by decide)).C (by decide)).C (by decide)).C (by decide)).C (by decide)).C (by decide)).C (by decide)) ⟨?_, ?_⟩ (fun i i0 i1 => ⟨?_, ?_⟩) (fun e e0 e1 => ⟨?_, ?_, ?_, ?_, ?_⟩)
  · show gW (gW μ 1 0 (μ 51 0)) 1 1 (μ 51 1) 1 0 = _
    rw [gWn _ _ _ (by decide), gWe]
  · show gW (gW μ 1 0 (μ 51 0)) 1 1 (μ 51 1) 1 1 = _
    exact gWe _ _ _ _
  · rw [gCp_n (by decide), gCp_n (by decide), gCp_n (by decide), gCp_n (by decide), gCp_n (by decide), gCp_n (by decide), gCp_i i0 i1]; rfl
  · rw [gCp_n (by decide), gCp_n (by decide), gCp_n (by decide), gCp_n (by decide), gCp_n (by decide), gCp_i i0 i1]; rfl
  · rw [gCp_n (by decide), gCp_n (by decide), gCp_n (by decide), gCp_n (by decide), gCp_i e0 e1]; rfl
  · rw [gCp_n (by decide), gCp_n (by decide), gCp_n (by decide), gCp_i e0 e1]; rfl
  · rw [gCp_n (by decide), gCp_n (by decide), gCp_i e0 e1]; rfl
  · rw [gCp_n (by decide), gCp_i e0 e1]; rfl
  · rw [gCp_i e0 e1]; rfl
theorem t_222 {D : Nat} (hD : 2 ≤ D) {μ : MU} {Q : GQ} {s : Int} (hs : s = 0 ∨ s = 1) (hn : 0 ≤ μ 62 0 ∧ μ 62 0 ≤ 12) (h : ∀ ν : MU, gFr [63, 64] μ ν → (∀ k : Int, 0 ≤ k → k < 289 → ν 63 (289 * s + k) = μ 62 k) → (∀ k : Int, ¬ (289 * s ≤ k ∧ k < 289 * s + 289) → ν 63 k = μ 63 k) → ν 64 s = 1 → (∀ j : Int, j ≠ s → ν 64 j = μ 64 j) → Q (some (gI (μ 62 0))) g_SH ν) : gCall g_T g_F D 222 [gR 61, gI s] g_SH μ Q := by
  have s01 : 0 ≤ s ∧ s ≤ 1 := by omega
  obtain ⟨d, rfl⟩ := gD (show 1 ≤ D by omega)
  refine gC 300 [13] rfl ?_
  (conv => whnf); try simp only [gO, gWe, ne_eq, Nat.reduceEqDiff, not_false_eq_true, true_or, or_true, true_and]
  refine t_125 (by omega) (fun _ => ?_) (fun c => absurd s01 c)
  (conv => whnf); try simp only [gO, gWe, ne_eq, Nat.reduceEqDiff, not_false_eq_true, true_or, or_true, true_and]
  repeat' (first | exact True.intro | (refine ⟨fun hb => ?_, fun hb => ?_⟩ <;> first | (exfalso; omega; done) | exact absurd True.intro hb | ((conv => whnf); try simp only [gO, gWe, ne_eq, Nat.reduceEqDiff, not_false_eq_true, true_or, or_true, true_and])) | (refine ⟨by omega, ?_⟩; (conv => whnf); try simp only [gO, gWe, ne_eq, Nat.reduceEqDiff, not_false_eq_true, true_or, or_true, true_and]) | (refine ⟨fun hb => ?_, ?_⟩ <;> first | (exfalso; omega; done) | exact absurd True.intro hb | ((conv => whnf); try simp only [gO, gWe, ne_eq, Nat.reduceEqDiff, not_false_eq_true, true_or, or_true, true_and])) | fail)
  have key : ∀ k : Int, 0 ≤ k → k ≤ 289 → ∀ ρ : MU, gFr [63] μ ρ → (∀ j : Int, 0 ≤ j → j < k → ρ 63 (289 * s + j) = μ 62 j) → (∀ j : Int, ¬ (289 * s ≤ j ∧ j < 289 * s + 289) → ρ 63 j = μ 63 j) → gG g_T g_F (gCall g_T g_F d) 0 (fun _ => 0) (g_T 222) Q 13 [gR 61, gI s, gI k] [] g_SH ρ 0 0 := by
    refine g_up (fun k k0 k1 ih ρ hρ hk ho => ?_) (fun ρ hρ hk ho => ?_)
    · have i := ih (gW ρ 63 (289 * s + k) (ρ 62 k)) (hρ.W (by decide)) (fun j j0 j1 => by
        by_cases c : j = k
        · rw [c, gWe, hρ 62 (by decide)]
        · rw [gWn _ _ _ (by omega)]; exact hk j j0 (by omega)) (fun j hj => by rw [gWn _ _ _ (by omega)]; exact ho j hj)
      clear ih hk ho hs
      refine gB_gG [13] 300 ?_
      (conv => whnf); try simp only [gO, gWe, ne_eq, Nat.reduceEqDiff, not_false_eq_true, true_or, or_true, true_and]
      repeat' (first | exact True.intro | (refine ⟨fun hb => ?_, fun hb => ?_⟩ <;> first | (exfalso; omega; done) | exact absurd True.intro hb | ((conv => whnf); try simp only [gO, gWe, ne_eq, Nat.reduceEqDiff, not_false_eq_true, true_or, or_true, true_and])) | (refine ⟨by omega, ?_⟩; (conv => whnf); try simp only [gO, gWe, ne_eq, Nat.reduceEqDiff, not_false_eq_true, true_or, or_true, true_and]) | (refine ⟨fun hb => ?_, ?_⟩ <;> first | (exfalso; omega; done) | exact absurd True.intro hb | ((conv => whnf); try simp only [gO, gWe, ne_eq, Nat.reduceEqDiff, not_false_eq_true, true_or, or_true, true_and])) | fail)
      exact i
    · have f := h (gW ρ 64 s 1) ((hρ.mo (by decide)).W (by decide)) hk ho (gWe _ _ _ _) (fun j hj => by rw [gWn _ _ _ hj]; show ρ 64 j = _; rw [hρ 64 (by decide)])
      have e : ρ 62 0 = μ 62 0 := by rw [hρ 62 (by decide)]
      rw [← e] at f
      clear h hk ho hs
      refine gB_gG [13] 300 ?_
      (conv => whnf); try simp only [gO, gWe, ne_eq, Nat.reduceEqDiff, not_false_eq_true, true_or, or_true, true_and]
      repeat' (first | exact True.intro | (refine ⟨fun hb => ?_, fun hb => ?_⟩ <;> first | (exfalso; omega; done) | exact absurd True.intro hb | ((conv => whnf); try simp only [gO, gWe, ne_eq, Nat.reduceEqDiff, not_false_eq_true, true_or, or_true, true_and])) | (refine ⟨by omega, ?_⟩; (conv => whnf); try simp only [gO, gWe, ne_eq, Nat.reduceEqDiff, not_false_eq_true, true_or, or_true, true_and]) | (refine ⟨fun hb => ?_, ?_⟩ <;> first | (exfalso; omega; done) | exact absurd True.intro hb | ((conv => whnf); try simp only [gO, gWe, ne_eq, Nat.reduceEqDiff, not_false_eq_true, true_or, or_true, true_and])) | fail)
      exact f
  exact key 0 (by omega) (by omega) μ gFr.rf (fun j _ _ => by omega) (fun _ _ => rfl)
