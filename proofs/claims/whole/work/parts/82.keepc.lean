/-! the case keep, slot by slot -/
theorem t_123_0 {D : Nat} (hD : 1 ≤ D) {μ : MU} {Q : GQ} (h : Q (some (gR 39)) g_SH μ) : gCall g_T g_F D 123 [gR 0, gI 0] g_SH μ Q := by
  obtain ⟨d, rfl⟩ := gD (show 1 ≤ D by omega)
  refine gC 300 [] rfl ?_
  (conv => whnf); try simp only [gO, gWe, ne_eq, Nat.reduceEqDiff, not_false_eq_true, true_or, or_true, true_and]
  repeat' (first | exact True.intro | (refine ⟨fun hb => ?_, fun hb => ?_⟩ <;> first | (exfalso; omega; done) | exact absurd True.intro hb | ((conv => whnf); try simp only [gO, gWe, ne_eq, Nat.reduceEqDiff, not_false_eq_true, true_or, or_true, true_and])) | (refine ⟨by omega, ?_⟩; (conv => whnf); try simp only [gO, gWe, ne_eq, Nat.reduceEqDiff, not_false_eq_true, true_or, or_true, true_and]) | (refine ⟨fun hb => ?_, ?_⟩ <;> first | (exfalso; omega; done) | exact absurd True.intro hb | ((conv => whnf); try simp only [gO, gWe, ne_eq, Nat.reduceEqDiff, not_false_eq_true, true_or, or_true, true_and])) | fail)
  exact h
theorem t_123_1 {D : Nat} (hD : 1 ≤ D) {μ : MU} {Q : GQ} (h : Q (some (gR 50)) g_SH μ) : gCall g_T g_F D 123 [gR 0, gI 1] g_SH μ Q := by
  obtain ⟨d, rfl⟩ := gD (show 1 ≤ D by omega)
  refine gC 300 [] rfl ?_
  (conv => whnf); try simp only [gO, gWe, ne_eq, Nat.reduceEqDiff, not_false_eq_true, true_or, or_true, true_and]
  repeat' (first | exact True.intro | (refine ⟨fun hb => ?_, fun hb => ?_⟩ <;> first | (exfalso; omega; done) | exact absurd True.intro hb | ((conv => whnf); try simp only [gO, gWe, ne_eq, Nat.reduceEqDiff, not_false_eq_true, true_or, or_true, true_and])) | (refine ⟨by omega, ?_⟩; (conv => whnf); try simp only [gO, gWe, ne_eq, Nat.reduceEqDiff, not_false_eq_true, true_or, or_true, true_and]) | (refine ⟨fun hb => ?_, ?_⟩ <;> first | (exfalso; omega; done) | exact absurd True.intro hb | ((conv => whnf); try simp only [gO, gWe, ne_eq, Nat.reduceEqDiff, not_false_eq_true, true_or, or_true, true_and])) | fail)
  exact h
theorem t_123_n {D : Nat} (hD : 1 ≤ D) {μ : MU} {Q : GQ} {s : Int} (h0 : s ≠ 0) (h1 : s ≠ 1) (h : Q (some (gN 0)) g_SH μ) : gCall g_T g_F D 123 [gR 0, gI s] g_SH μ Q := by
  obtain ⟨d, rfl⟩ := gD (show 1 ≤ D by omega)
  refine gC 300 [] rfl ?_
  (conv => whnf); try simp only [gO, gWe, ne_eq, Nat.reduceEqDiff, not_false_eq_true, true_or, or_true, true_and]
  repeat' (first | exact True.intro | (refine ⟨fun hb => ?_, fun hb => ?_⟩ <;> first | (exfalso; omega; done) | exact absurd True.intro hb | ((conv => whnf); try simp only [gO, gWe, ne_eq, Nat.reduceEqDiff, not_false_eq_true, true_or, or_true, true_and])) | (refine ⟨by omega, ?_⟩; (conv => whnf); try simp only [gO, gWe, ne_eq, Nat.reduceEqDiff, not_false_eq_true, true_or, or_true, true_and]) | (refine ⟨fun hb => ?_, ?_⟩ <;> first | (exfalso; omega; done) | exact absurd True.intro hb | ((conv => whnf); try simp only [gO, gWe, ne_eq, Nat.reduceEqDiff, not_false_eq_true, true_or, or_true, true_and])) | fail)
  · exact h
  · exact h
theorem c_112_0 {D : Nat} (hD : 30 ≤ D) {μ : MU} (hA : iAll μ) : hCs D 112 222 [gI 0] μ := by
  intro Q Q' h h'
  have hG := hA.1.1
  have G := hG.1
  have l01 := hA.1.2.2.1
  have M0 := hA.2.1.1.1
  obtain ⟨d, rfl⟩ := gD (show 1 ≤ D by omega)
  refine gC 300 [] rfl ?_
  (conv => whnf); try simp only [gO, gWe, ne_eq, Nat.reduceEqDiff, not_false_eq_true, true_or, or_true, true_and]
  repeat' (first | exact True.intro | (refine ⟨fun hb => ?_, fun hb => ?_⟩ <;> first | (exfalso; omega; done) | exact absurd True.intro hb | ((conv => whnf); try simp only [gO, gWe, ne_eq, Nat.reduceEqDiff, not_false_eq_true, true_or, or_true, true_and])) | (refine ⟨by omega, ?_⟩; (conv => whnf); try simp only [gO, gWe, ne_eq, Nat.reduceEqDiff, not_false_eq_true, true_or, or_true, true_and]) | (refine ⟨fun hb => ?_, ?_⟩ <;> first | (exfalso; omega; done) | exact absurd True.intro hb | ((conv => whnf); try simp only [gO, gWe, ne_eq, Nat.reduceEqDiff, not_false_eq_true, true_or, or_true, true_and])) | fail)
  refine t_123_0 (by omega) ?_
  (conv => whnf); try simp only [gO, gWe, ne_eq, Nat.reduceEqDiff, not_false_eq_true, true_or, or_true, true_and]
  repeat' (first | exact True.intro | (refine ⟨fun hb => ?_, fun hb => ?_⟩ <;> first | (exfalso; omega; done) | exact absurd True.intro hb | ((conv => whnf); try simp only [gO, gWe, ne_eq, Nat.reduceEqDiff, not_false_eq_true, true_or, or_true, true_and])) | (refine ⟨by omega, ?_⟩; (conv => whnf); try simp only [gO, gWe, ne_eq, Nat.reduceEqDiff, not_false_eq_true, true_or, or_true, true_and]) | (refine ⟨fun hb => ?_, ?_⟩ <;> first | (exfalso; omega; done) | exact absurd True.intro hb | ((conv => whnf); try simp only [gO, gWe, ne_eq, Nat.reduceEqDiff, not_false_eq_true, true_or, or_true, true_and])) | fail)
  refine t_18k_40 (by omega) (fun ν hν n1 n2 n3 => ?_)
  have f0 : ν 0 6 = μ 0 6 := by rw [hν 0 (by decide)]
  have f01 : ν 0 6 = 0 ∨ ν 0 6 = 1 := by rw [f0]; exact l01
  have f1 : ν 1 0 = (μ 1 0) := by rw [hν 1 (by decide)]
  (conv => whnf); try simp only [gO, gWe, ne_eq, Nat.reduceEqDiff, not_false_eq_true, true_or, or_true, true_and]
  repeat' (first | exact True.intro | (refine ⟨fun hb => ?_, fun hb => ?_⟩ <;> first | (exfalso; omega; done) | exact absurd True.intro hb | ((conv => whnf); try simp only [gO, gWe, ne_eq, Nat.reduceEqDiff, not_false_eq_true, true_or, or_true, true_and])) | (refine ⟨by omega, ?_⟩; (conv => whnf); try simp only [gO, gWe, ne_eq, Nat.reduceEqDiff, not_false_eq_true, true_or, or_true, true_and]) | (refine ⟨fun hb => ?_, ?_⟩ <;> first | (exfalso; omega; done) | exact absurd True.intro hb | ((conv => whnf); try simp only [gO, gWe, ne_eq, Nat.reduceEqDiff, not_false_eq_true, true_or, or_true, true_and])) | fail)
  have rr : (gCp (gCp (gW ν 39 1 (ν 0 6)) 24 0 48 0 60) 34 0 49 0 60) 1 0 = μ 1 0 := by rw [gCp_n (by decide), gCp_n (by decide), gO (by decide)]; exact f1
  repeat' (first | exact True.intro | (refine ⟨fun hb => ?_, fun hb => ?_⟩ <;> first | (exfalso; omega; done) | exact absurd True.intro hb | ((conv => whnf); try simp only [gO, gWe, ne_eq, Nat.reduceEqDiff, not_false_eq_true, true_or, or_true, true_and])) | (refine ⟨by omega, ?_⟩; (conv => whnf); try simp only [gO, gWe, ne_eq, Nat.reduceEqDiff, not_false_eq_true, true_or, or_true, true_and]) | (refine ⟨fun hb => ?_, ?_⟩ <;> first | (exfalso; omega; done) | exact absurd True.intro hb | ((conv => whnf); try simp only [gO, gWe, ne_eq, Nat.reduceEqDiff, not_false_eq_true, true_or, or_true, true_and])) | fail)
  (conv => whnf); try simp only [gO, gWe, ne_eq, Nat.reduceEqDiff, not_false_eq_true, true_or, or_true, true_and]
  repeat' (first | exact True.intro | (refine ⟨fun hb => ?_, fun hb => ?_⟩ <;> first | (exfalso; omega; done) | exact absurd True.intro hb | ((conv => whnf); try simp only [gO, gWe, ne_eq, Nat.reduceEqDiff, not_false_eq_true, true_or, or_true, true_and])) | (refine ⟨by omega, ?_⟩; (conv => whnf); try simp only [gO, gWe, ne_eq, Nat.reduceEqDiff, not_false_eq_true, true_or, or_true, true_and]) | (refine ⟨fun hb => ?_, ?_⟩ <;> first | (exfalso; omega; done) | exact absurd True.intro hb | ((conv => whnf); try simp only [gO, gWe, ne_eq, Nat.reduceEqDiff, not_false_eq_true, true_or, or_true, true_and])) | fail)
  rw [rr]
  have fω : gFr [39, 40, 41, 42, 43, 44, 45, 46, 47, 48, 49] μ (gW (gCp (gCp (gW ν 39 1 (ν 0 6)) 24 0 (48) 0 60) 34 0 (49) 0 60) 39 0 1) := ((((hν.mo (by decide)).W (by decide)).C (by decide)).C (by decide)).W (by decide)
  have w0 : (gW (gCp (gCp (gW ν 39 1 (ν 0 6)) 24 0 (48) 0 60) 34 0 (49) 0 60) 39 0 1) 39 0 = 1 := gWe _ _ _ _
  have w1 : (gW (gCp (gCp (gW ν 39 1 (ν 0 6)) 24 0 (48) 0 60) 34 0 (49) 0 60) 39 0 1) 39 1 = μ 0 6 := by
    rw [gWn _ _ _ (by decide), gCp_n (by decide), gCp_n (by decide), gWe]; exact f0
  have wg : ∀ c : Nat, 40 ≤ c → c ≤ 47 → (gW (gCp (gCp (gW ν 39 1 (ν 0 6)) 24 0 (48) 0 60) 34 0 (49) 0 60) 39 0 1) c = ν c := fun c a b => by
    rw [gO (by omega), gCp_n (by omega), gCp_n (by omega), gO (by omega)]
  have ws : ∀ k : Int, 0 ≤ k → k < 60 → (gW (gCp (gCp (gW ν 39 1 (ν 0 6)) 24 0 (48) 0 60) 34 0 (49) 0 60) 39 0 1) (48) k = μ 24 k ∧ (gW (gCp (gCp (gW ν 39 1 (ν 0 6)) 24 0 (48) 0 60) 34 0 (49) 0 60) 39 0 1) (49) k = μ 34 k := fun k k0 k1 => by
    refine ⟨?_, ?_⟩
    · rw [gO (by decide), gCp_n (by decide), gCp_i k0 k1, gO (by decide), hν 24 (by decide)]
    · rw [gO (by decide), gCp_i k0 k1, gCp_n (by decide), gO (by decide), hν 34 (by decide)]
  generalize gW (gCp (gCp (gW ν 39 1 (ν 0 6)) 24 0 (48) 0 60) 34 0 (49) 0 60) 39 0 1 = ω at *
  refine h _ ω (t_222 (by omega) (Or.inl rfl) (by rw [fω 62 (by decide)]; omega) (fun τ hτ k1 k2 k3 k4 => ?_))
  have e62 : ω 62 = μ 62 := fω 62 (by decide)
  have fτ : gFr [39, 40, 41, 42, 43, 44, 45, 46, 47, 48, 49, 63, 64] μ τ := (fω.mo (by decide)).tr (hτ.mo (by decide))
  have st : hSt μ τ := fτ.st (by decide)
  have s0 : τ 0 6 = μ 0 6 := by rw [fτ 0 (by decide)]
  obtain ⟨a1, a2, a3, a4, a5⟩ := hA
  refine h' _ _ τ (by rw [e62]; exact M0.1) ⟨iA_c st s0 (fτ 24 (by decide)) (fτ 25 (by decide)) (fτ 34 (by decide)) a1, iB_c st s0 (fτ 24 (by decide)) (fτ 34 (by decide)) (fτ 62 (by decide)) a2, iF_c st (by rw [fτ 61 (by decide)]) (fτ 66 (by decide)) (fτ 67 (by decide)) a3, iT_c (by rw [fτ 36 (by decide)]) (fτ 37 (by decide)) (by rw [fτ 61 (by decide)]) (fτ 65 (by decide)) a4, ⟨by rw [hτ 39 (by decide)]; exact Or.inr w0, by rw [k3, hτ 39 (by decide), w0], fun _ => ⟨μ, a1, a2, fun k q0 q1 => by rw [show (0 : Int) + k = 289 * 0 + k by omega, k1 k q0 q1, e62], ⟨by rw [hτ 40 (by decide), wg 40 (by decide) (by decide)]; exact n1.1, by rw [hτ 40 (by decide), wg 40 (by decide) (by decide)]; exact n1.2, by rw [hτ 39 (by decide)]; exact w1⟩, fun i q0 q1 => by rw [hτ (41) (by decide), hτ (42) (by decide), wg (41) (by decide) (by decide), wg (42) (by decide) (by decide)]; exact n2 i q0 q1, fun e q0 q1 => by rw [hτ (43) (by decide), hτ (44) (by decide), hτ (45) (by decide), hτ (46) (by decide), hτ (47) (by decide), wg (43) (by decide) (by decide), wg (44) (by decide) (by decide), wg (45) (by decide) (by decide), wg (46) (by decide) (by decide), wg (47) (by decide) (by decide)]; exact n3 e q0 q1, fun k q0 q1 => by rw [hτ (48) (by decide), hτ (49) (by decide)]; exact ws k q0 q1⟩⟩, iS1_c (fun c a b => fτ c (fun hc => by simp only [List.mem_cons, List.not_mem_nil, or_false] at hc; omega)) (fun k q0 q1 => by rw [k2 _ (by omega), fω 63 (by decide)]) (by rw [k4 1 (by decide), fω 64 (by decide)]) a5.2⟩
theorem c_112_1 {D : Nat} (hD : 30 ≤ D) {μ : MU} (hA : iAll μ) : hCs D 112 222 [gI 1] μ := by
  intro Q Q' h h'
  have hG := hA.1.1
  have G := hG.1
  have l01 := hA.1.2.2.1
  have M0 := hA.2.1.1.1
  obtain ⟨d, rfl⟩ := gD (show 1 ≤ D by omega)
  refine gC 300 [] rfl ?_
  (conv => whnf); try simp only [gO, gWe, ne_eq, Nat.reduceEqDiff, not_false_eq_true, true_or, or_true, true_and]
  repeat' (first | exact True.intro | (refine ⟨fun hb => ?_, fun hb => ?_⟩ <;> first | (exfalso; omega; done) | exact absurd True.intro hb | ((conv => whnf); try simp only [gO, gWe, ne_eq, Nat.reduceEqDiff, not_false_eq_true, true_or, or_true, true_and])) | (refine ⟨by omega, ?_⟩; (conv => whnf); try simp only [gO, gWe, ne_eq, Nat.reduceEqDiff, not_false_eq_true, true_or, or_true, true_and]) | (refine ⟨fun hb => ?_, ?_⟩ <;> first | (exfalso; omega; done) | exact absurd True.intro hb | ((conv => whnf); try simp only [gO, gWe, ne_eq, Nat.reduceEqDiff, not_false_eq_true, true_or, or_true, true_and])) | fail)
  refine t_123_1 (by omega) ?_
  (conv => whnf); try simp only [gO, gWe, ne_eq, Nat.reduceEqDiff, not_false_eq_true, true_or, or_true, true_and]
  repeat' (first | exact True.intro | (refine ⟨fun hb => ?_, fun hb => ?_⟩ <;> first | (exfalso; omega; done) | exact absurd True.intro hb | ((conv => whnf); try simp only [gO, gWe, ne_eq, Nat.reduceEqDiff, not_false_eq_true, true_or, or_true, true_and])) | (refine ⟨by omega, ?_⟩; (conv => whnf); try simp only [gO, gWe, ne_eq, Nat.reduceEqDiff, not_false_eq_true, true_or, or_true, true_and]) | (refine ⟨fun hb => ?_, ?_⟩ <;> first | (exfalso; omega; done) | exact absurd True.intro hb | ((conv => whnf); try simp only [gO, gWe, ne_eq, Nat.reduceEqDiff, not_false_eq_true, true_or, or_true, true_and])) | fail)
  refine t_18k_51 (by omega) (fun ν hν n1 n2 n3 => ?_)
  have f0 : ν 0 6 = μ 0 6 := by rw [hν 0 (by decide)]
  have f01 : ν 0 6 = 0 ∨ ν 0 6 = 1 := by rw [f0]; exact l01
  have f1 : ν 1 0 = (μ 1 0) := by rw [hν 1 (by decide)]
  (conv => whnf); try simp only [gO, gWe, ne_eq, Nat.reduceEqDiff, not_false_eq_true, true_or, or_true, true_and]
  repeat' (first | exact True.intro | (refine ⟨fun hb => ?_, fun hb => ?_⟩ <;> first | (exfalso; omega; done) | exact absurd True.intro hb | ((conv => whnf); try simp only [gO, gWe, ne_eq, Nat.reduceEqDiff, not_false_eq_true, true_or, or_true, true_and])) | (refine ⟨by omega, ?_⟩; (conv => whnf); try simp only [gO, gWe, ne_eq, Nat.reduceEqDiff, not_false_eq_true, true_or, or_true, true_and]) | (refine ⟨fun hb => ?_, ?_⟩ <;> first | (exfalso; omega; done) | exact absurd True.intro hb | ((conv => whnf); try simp only [gO, gWe, ne_eq, Nat.reduceEqDiff, not_false_eq_true, true_or, or_true, true_and])) | fail)
  have rr : (gCp (gCp (gW ν 50 1 (ν 0 6)) 24 0 59 0 60) 34 0 60 0 60) 1 0 = μ 1 0 := by rw [gCp_n (by decide), gCp_n (by decide), gO (by decide)]; exact f1
  repeat' (first | exact True.intro | (refine ⟨fun hb => ?_, fun hb => ?_⟩ <;> first | (exfalso; omega; done) | exact absurd True.intro hb | ((conv => whnf); try simp only [gO, gWe, ne_eq, Nat.reduceEqDiff, not_false_eq_true, true_or, or_true, true_and])) | (refine ⟨by omega, ?_⟩; (conv => whnf); try simp only [gO, gWe, ne_eq, Nat.reduceEqDiff, not_false_eq_true, true_or, or_true, true_and]) | (refine ⟨fun hb => ?_, ?_⟩ <;> first | (exfalso; omega; done) | exact absurd True.intro hb | ((conv => whnf); try simp only [gO, gWe, ne_eq, Nat.reduceEqDiff, not_false_eq_true, true_or, or_true, true_and])) | fail)
  (conv => whnf); try simp only [gO, gWe, ne_eq, Nat.reduceEqDiff, not_false_eq_true, true_or, or_true, true_and]
  repeat' (first | exact True.intro | (refine ⟨fun hb => ?_, fun hb => ?_⟩ <;> first | (exfalso; omega; done) | exact absurd True.intro hb | ((conv => whnf); try simp only [gO, gWe, ne_eq, Nat.reduceEqDiff, not_false_eq_true, true_or, or_true, true_and])) | (refine ⟨by omega, ?_⟩; (conv => whnf); try simp only [gO, gWe, ne_eq, Nat.reduceEqDiff, not_false_eq_true, true_or, or_true, true_and]) | (refine ⟨fun hb => ?_, ?_⟩ <;> first | (exfalso; omega; done) | exact absurd True.intro hb | ((conv => whnf); try simp only [gO, gWe, ne_eq, Nat.reduceEqDiff, not_false_eq_true, true_or, or_true, true_and])) | fail)
  rw [rr]
  have fω : gFr [50, 51, 52, 53, 54, 55, 56, 57, 58, 59, 60] μ (gW (gCp (gCp (gW ν 50 1 (ν 0 6)) 24 0 (59) 0 60) 34 0 (60) 0 60) 50 0 1) := ((((hν.mo (by decide)).W (by decide)).C (by decide)).C (by decide)).W (by decide)
  have w0 : (gW (gCp (gCp (gW ν 50 1 (ν 0 6)) 24 0 (59) 0 60) 34 0 (60) 0 60) 50 0 1) 50 0 = 1 := gWe _ _ _ _
  have w1 : (gW (gCp (gCp (gW ν 50 1 (ν 0 6)) 24 0 (59) 0 60) 34 0 (60) 0 60) 50 0 1) 50 1 = μ 0 6 := by
    rw [gWn _ _ _ (by decide), gCp_n (by decide), gCp_n (by decide), gWe]; exact f0
  have wg : ∀ c : Nat, 51 ≤ c → c ≤ 58 → (gW (gCp (gCp (gW ν 50 1 (ν 0 6)) 24 0 (59) 0 60) 34 0 (60) 0 60) 50 0 1) c = ν c := fun c a b => by
    rw [gO (by omega), gCp_n (by omega), gCp_n (by omega), gO (by omega)]
  have ws : ∀ k : Int, 0 ≤ k → k < 60 → (gW (gCp (gCp (gW ν 50 1 (ν 0 6)) 24 0 (59) 0 60) 34 0 (60) 0 60) 50 0 1) (59) k = μ 24 k ∧ (gW (gCp (gCp (gW ν 50 1 (ν 0 6)) 24 0 (59) 0 60) 34 0 (60) 0 60) 50 0 1) (60) k = μ 34 k := fun k k0 k1 => by
    refine ⟨?_, ?_⟩
    · rw [gO (by decide), gCp_n (by decide), gCp_i k0 k1, gO (by decide), hν 24 (by decide)]
    · rw [gO (by decide), gCp_i k0 k1, gCp_n (by decide), gO (by decide), hν 34 (by decide)]
  generalize gW (gCp (gCp (gW ν 50 1 (ν 0 6)) 24 0 (59) 0 60) 34 0 (60) 0 60) 50 0 1 = ω at *
  refine h _ ω (t_222 (by omega) (Or.inr rfl) (by rw [fω 62 (by decide)]; omega) (fun τ hτ k1 k2 k3 k4 => ?_))
  have e62 : ω 62 = μ 62 := fω 62 (by decide)
  have fτ : gFr [50, 51, 52, 53, 54, 55, 56, 57, 58, 59, 60, 63, 64] μ τ := (fω.mo (by decide)).tr (hτ.mo (by decide))
  have st : hSt μ τ := fτ.st (by decide)
  have s0 : τ 0 6 = μ 0 6 := by rw [fτ 0 (by decide)]
  obtain ⟨a1, a2, a3, a4, a5⟩ := hA
  refine h' _ _ τ (by rw [e62]; exact M0.1) ⟨iA_c st s0 (fτ 24 (by decide)) (fτ 25 (by decide)) (fτ 34 (by decide)) a1, iB_c st s0 (fτ 24 (by decide)) (fτ 34 (by decide)) (fτ 62 (by decide)) a2, iF_c st (by rw [fτ 61 (by decide)]) (fτ 66 (by decide)) (fτ 67 (by decide)) a3, iT_c (by rw [fτ 36 (by decide)]) (fτ 37 (by decide)) (by rw [fτ 61 (by decide)]) (fτ 65 (by decide)) a4, iS0_c (fun c a b => fτ c (fun hc => by simp only [List.mem_cons, List.not_mem_nil, or_false] at hc; omega)) (fun k q0 q1 => by rw [k2 _ (by omega), fω 63 (by decide)]) (by rw [k4 0 (by decide), fω 64 (by decide)]) a5.1, ⟨by rw [hτ 50 (by decide)]; exact Or.inr w0, by rw [k3, hτ 50 (by decide), w0], fun _ => ⟨μ, a1, a2, fun k q0 q1 => by rw [show (289 : Int) + k = 289 * 1 + k by omega, k1 k q0 q1, e62], ⟨by rw [hτ 51 (by decide), wg 51 (by decide) (by decide)]; exact n1.1, by rw [hτ 51 (by decide), wg 51 (by decide) (by decide)]; exact n1.2, by rw [hτ 50 (by decide)]; exact w1⟩, fun i q0 q1 => by rw [hτ (52) (by decide), hτ (53) (by decide), wg (52) (by decide) (by decide), wg (53) (by decide) (by decide)]; exact n2 i q0 q1, fun e q0 q1 => by rw [hτ (54) (by decide), hτ (55) (by decide), hτ (56) (by decide), hτ (57) (by decide), hτ (58) (by decide), wg (54) (by decide) (by decide), wg (55) (by decide) (by decide), wg (56) (by decide) (by decide), wg (57) (by decide) (by decide), wg (58) (by decide) (by decide)]; exact n3 e q0 q1, fun k q0 q1 => by rw [hτ (59) (by decide), hτ (60) (by decide)]; exact ws k q0 q1⟩⟩⟩
theorem c_112 {D : Nat} (hD : 30 ≤ D) {μ : MU} (hA : iAll μ) {s : Int} : hCs D 112 222 [gI s] μ := by
  by_cases c0 : s = 0
  · rw [c0]; exact c_112_0 hD hA
  · by_cases c1 : s = 1
    · rw [c1]; exact c_112_1 hD hA
    · intro Q Q' h h'
      have bad : ∀ (D : Nat) (hD : 20 ≤ D) (Q : GQ), Q (some (gI (-1))) g_SH μ → gCall g_T g_F D 222 [gR 61, gI s] g_SH μ Q := by
        intro D hD Q k
        obtain ⟨d, rfl⟩ := gD (show 1 ≤ D by omega)
        refine gC 300 [] rfl ?_
        (conv => whnf); try simp only [gO, gWe, ne_eq, Nat.reduceEqDiff, not_false_eq_true, true_or, or_true, true_and]
        repeat' (first | exact True.intro | (refine ⟨fun hb => ?_, fun hb => ?_⟩ <;> first | (exfalso; omega; done) | exact absurd True.intro hb | ((conv => whnf); try simp only [gO, gWe, ne_eq, Nat.reduceEqDiff, not_false_eq_true, true_or, or_true, true_and])) | (refine ⟨by omega, ?_⟩; (conv => whnf); try simp only [gO, gWe, ne_eq, Nat.reduceEqDiff, not_false_eq_true, true_or, or_true, true_and]) | (refine ⟨fun hb => ?_, ?_⟩ <;> first | (exfalso; omega; done) | exact absurd True.intro hb | ((conv => whnf); try simp only [gO, gWe, ne_eq, Nat.reduceEqDiff, not_false_eq_true, true_or, or_true, true_and])) | fail)
        refine t_125 (by omega) (fun c => by omega) (fun _ => ?_)
        (conv => whnf); try simp only [gO, gWe, ne_eq, Nat.reduceEqDiff, not_false_eq_true, true_or, or_true, true_and]
        repeat' (first | exact True.intro | (refine ⟨fun hb => ?_, fun hb => ?_⟩ <;> first | (exfalso; omega; done) | exact absurd True.intro hb | ((conv => whnf); try simp only [gO, gWe, ne_eq, Nat.reduceEqDiff, not_false_eq_true, true_or, or_true, true_and])) | (refine ⟨by omega, ?_⟩; (conv => whnf); try simp only [gO, gWe, ne_eq, Nat.reduceEqDiff, not_false_eq_true, true_or, or_true, true_and]) | (refine ⟨fun hb => ?_, ?_⟩ <;> first | (exfalso; omega; done) | exact absurd True.intro hb | ((conv => whnf); try simp only [gO, gWe, ne_eq, Nat.reduceEqDiff, not_false_eq_true, true_or, or_true, true_and])) | fail)
        exact k
      have f := h _ μ (bad _ (by omega) _ (h' _ _ μ rfl hA))
      clear bad
      obtain ⟨d, rfl⟩ := gD (show 1 ≤ D by omega)
      refine gC 300 [] rfl ?_
      (conv => whnf); try simp only [gO, gWe, ne_eq, Nat.reduceEqDiff, not_false_eq_true, true_or, or_true, true_and]
      repeat' (first | exact True.intro | (refine ⟨fun hb => ?_, fun hb => ?_⟩ <;> first | (exfalso; omega; done) | exact absurd True.intro hb | ((conv => whnf); try simp only [gO, gWe, ne_eq, Nat.reduceEqDiff, not_false_eq_true, true_or, or_true, true_and])) | (refine ⟨by omega, ?_⟩; (conv => whnf); try simp only [gO, gWe, ne_eq, Nat.reduceEqDiff, not_false_eq_true, true_or, or_true, true_and]) | (refine ⟨fun hb => ?_, ?_⟩ <;> first | (exfalso; omega; done) | exact absurd True.intro hb | ((conv => whnf); try simp only [gO, gWe, ne_eq, Nat.reduceEqDiff, not_false_eq_true, true_or, or_true, true_and])) | fail)
      refine t_123_n (by omega) c0 c1 ?_
      (conv => whnf); try simp only [gO, gWe, ne_eq, Nat.reduceEqDiff, not_false_eq_true, true_or, or_true, true_and]
      repeat' (first | exact True.intro | (refine ⟨fun hb => ?_, fun hb => ?_⟩ <;> first | (exfalso; omega; done) | exact absurd True.intro hb | ((conv => whnf); try simp only [gO, gWe, ne_eq, Nat.reduceEqDiff, not_false_eq_true, true_or, or_true, true_and])) | (refine ⟨by omega, ?_⟩; (conv => whnf); try simp only [gO, gWe, ne_eq, Nat.reduceEqDiff, not_false_eq_true, true_or, or_true, true_and]) | (refine ⟨fun hb => ?_, ?_⟩ <;> first | (exfalso; omega; done) | exact absurd True.intro hb | ((conv => whnf); try simp only [gO, gWe, ne_eq, Nat.reduceEqDiff, not_false_eq_true, true_or, or_true, true_and])) | fail)
      exact f
