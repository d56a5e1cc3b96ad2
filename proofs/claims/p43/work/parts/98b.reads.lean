variable {sN : Int} {sX : Int → Int}
/-! the law's reads -/
theorem ab_ne {a n q : Int} (n2 : 2 ≤ n ∧ n ≤ 12) (a0 : 0 ≤ a ∧ a < n) (q0 : 0 ≤ q ∧ q < n - 1) : gRem (a + 1 + q) n ≠ a := by
  rw [g_rem (by omega) (by omega) (by omega) (by omega)]
  intro h
  generalize (a + 1 + q) / n = k at h
  by_cases c : k ≤ 0
  · have := Int.mul_le_mul_of_nonneg_right c (show 0 ≤ n by omega)
    omega
  · have := Int.mul_le_mul_of_nonneg_right (show 1 ≤ k by omega) (show 0 ≤ n by omega)
    omega
def txF (a b p l : Int) : Int → Int := fun k => if k = 0 then 48 + a else if k = 1 then 46 else if k = 2 then 48 + p else if k = 3 then 62 else if k = 4 then 48 + b else if k = 5 then 61 else if k = 6 then 48 + l else if k = 7 then 59 else if k = 8 then 48 + b else if k = 9 then 62 else if k = 10 then 48 + a else if k = 11 then 59 else if k = 12 then 48 + a else if k = 13 then 62 else 48 + a
def hTk (ν : MU) (n : Int) (tx : Int → Int) : Prop := (ν 36 1) = n ∧ ∀ k : Int, 0 ≤ k → k < n → (ν 37) k = tx k ∧ 32 ≤ tx k ∧ tx k ≤ 126
theorem hTk.T {ν : MU} {n : Int} {tx : Int → Int} (n0 : 0 ≤ n ∧ n ≤ 100) (h : hTk ν n tx) : hTx ν := ⟨by have := h.1; omega, fun k k0 k1 => by
  have a := h.2 k k0 (by have := h.1; omega)
  rw [a.1]
  exact a.2⟩
theorem hTk.r {ν : MU} {n : Int} {tx : Int → Int} (h : hTk ν n tx) {k : Int} (k0 : 0 ≤ k) : pHr (ν 37) (ν 36 1) k = if k < n then tx k else 0 := by
  unfold pHr
  rw [h.1]
  by_cases c : k < n
  · rw [if_pos c, if_pos c]
    exact (h.2 k k0 c).1
  · rw [if_neg c, if_neg c]
theorem hTk.c {ν ρ : MU} {n : Int} {tx : Int → Int} (h : hTk ν n tx) (h1 : ρ 36 1 = ν 36 1) (h2 : ρ 37 = ν 37) : hTk ρ n tx := ⟨by rw [h1]; exact h.1, fun k k0 k1 => by rw [h2]; exact h.2 k k0 k1⟩
theorem q_108 {D : Nat} (hD : 36 ≤ D) {μ ν : MU} {Q : GQ} {n c : Int} {tx : Int → Int} (hν : gFr [36, 37] μ ν) (hT : hTk ν n tx) (n0 : 0 ≤ n ∧ n < 100) (hc : tx n = c) (c0 : 32 ≤ c ∧ c ≤ 126) (h : ∀ ρ : MU, gFr [36, 37] μ ρ → hTk ρ (n + 1) tx → Q (some (gI (n + 1))) g_SH ρ) : gCall g_T g_F sN sX D 108 [gR 0, gI c] g_SH ν Q := by
  have e := hT.1
  refine p_108 hD c0 (by omega) (fun ρ hρ _ r1 r2 => ?_)
  rw [e] at r1 r2 ⊢
  refine h ρ (hν.tr hρ) ⟨r1, fun k k0 k1 => ?_⟩
  rw [r2]
  by_cases d : k = n
  · rw [d, gUp_e, hc]
    exact ⟨rfl, c0⟩
  · rw [gUp_n d]
    exact hT.2 k k0 (by omega)
theorem q_133 {D : Nat} (hD : 37 ≤ D) {μ ν : MU} {Q : GQ} {n a : Int} {tx : Int → Int} (hν : gFr [36, 37] μ ν) (hT : hTk ν n tx) (n0 : 0 ≤ n ∧ n < 100) (a0 : 0 ≤ a ∧ a ≤ 9) (hc : tx n = 48 + a) (h : ∀ ρ : MU, gFr [36, 37] μ ρ → hTk ρ (n + 1) tx → Q none g_SH ρ) : gCall g_T g_F sN sX D 133 [gR 0, gI a] g_SH ν Q := by
  have r : gRem a 10 = a := by
    rw [g_rem (by omega) (by omega) (by omega) (by omega)]
    omega
  obtain ⟨d, rfl⟩ := gD (show 1 ≤ D by omega)
  refine gC 300 [] rfl ?_
  (conv => whnf); try simp only [gO, gWe, ne_eq, Nat.reduceEqDiff, not_false_eq_true, true_or, or_true, true_and]
  repeat' (first | exact True.intro | (refine ⟨fun hb => ?_, fun hb => ?_⟩ <;> first | (exfalso; omega; done) | exact absurd True.intro hb | ((conv => whnf); try simp only [gO, gWe, ne_eq, Nat.reduceEqDiff, not_false_eq_true, true_or, or_true, true_and])) | (refine ⟨by omega, ?_⟩; (conv => whnf); try simp only [gO, gWe, ne_eq, Nat.reduceEqDiff, not_false_eq_true, true_or, or_true, true_and]) | (refine ⟨fun hb => ?_, ?_⟩ <;> first | (exfalso; omega; done) | exact absurd True.intro hb | ((conv => whnf); try simp only [gO, gWe, ne_eq, Nat.reduceEqDiff, not_false_eq_true, true_or, or_true, true_and])) | fail)
  rw [r]
  refine q_108 (by omega) hν hT n0 hc (by omega) (fun ρ hρ hT2 => ?_)
  (conv => whnf); try simp only [gO, gWe, ne_eq, Nat.reduceEqDiff, not_false_eq_true, true_or, or_true, true_and]
  repeat' (first | exact True.intro | (refine ⟨fun hb => ?_, fun hb => ?_⟩ <;> first | (exfalso; omega; done) | exact absurd True.intro hb | ((conv => whnf); try simp only [gO, gWe, ne_eq, Nat.reduceEqDiff, not_false_eq_true, true_or, or_true, true_and])) | (refine ⟨by omega, ?_⟩; (conv => whnf); try simp only [gO, gWe, ne_eq, Nat.reduceEqDiff, not_false_eq_true, true_or, or_true, true_and]) | (refine ⟨fun hb => ?_, ?_⟩ <;> first | (exfalso; omega; done) | exact absurd True.intro hb | ((conv => whnf); try simp only [gO, gWe, ne_eq, Nat.reduceEqDiff, not_false_eq_true, true_or, or_true, true_and])) | fail)
  exact h ρ hρ hT2
theorem hTk.tt {ν : MU} {n a b p l : Int} (h : hTk ν n (txF a b p l)) (hn : 12 ≤ n) : hTt (pHr (ν 37) (ν 36 1)) a b p l := by
  refine ⟨⟨?_, ?_, ?_, ?_, ?_, ?_, ?_, ?_⟩, ?_, ?_, ?_, ?_⟩ <;> rw [h.r (by omega), if_pos (by omega)] <;> rfl
theorem hGr_s {ν ρ μ : MU} (h : ∀ c : Nat, 1 ≤ c → c ≤ 8 → ρ c = μ c) (x : hGr ν ρ) : hGr ν μ := by
  unfold hGr at *
  rw [h 1 (by decide) (by decide), h 2 (by decide) (by decide), h 3 (by decide) (by decide), h 4 (by decide) (by decide), h 5 (by decide) (by decide), h 6 (by decide) (by decide), h 7 (by decide) (by decide), h 8 (by decide) (by decide)] at x
  exact x
theorem r_134c {d : Nat} (hd : 37 ≤ d) {ω₂ τ₁ : MU} {Q : GQ} {a b p r n m y en e8 : Int} {x9 : GV} (A2 : iA ω₂) (l2 : (ω₂ 0 6) = 0) (N2 : (ω₂ 1 0) = n) (n0 : 2 ≤ n ∧ n ≤ 9) (a0 : 0 ≤ a ∧ a < n) (b0 : 0 ≤ b ∧ b < n) (hab : b ≠ a) (p0 : 0 ≤ p ∧ p < 8) (r0 : 0 ≤ r ∧ r < 3) (T3 : hTk ω₂ 12 (txF a b p (1 + r))) (k2 : hKp 50 51 ω₂ τ₁) (A1 : iA τ₁) (l1 : (τ₁ 0 6) = 0) (n1 : (τ₁ 1 0) = n) (m1 : (τ₁ 1 1) = m) (hen : en < 14)
    (h : ∀ ω : MU, gFr [0, 1, 2, 3, 4, 5, 6, 7, 8, 9, 10, 11, 12, 13, 14, 15, 16, 17, 18, 36, 37] ω₂ ω → hGr ω τ₁ → iA ω → (ω 0 6) = 0 → Q (some (gI (1))) g_SH ω) : gG g_T g_F (gCall g_T g_F sN sX d) sN sX (g_T 134) Q 333 [gR 0, gI n, gI y, gI a, gI b, gI m, gI en, gI 1, gI e8, x9] [] g_SH ω₂ 0 0 := by
  refine gB_gG [] 300 ?_
  (conv => whnf); try simp only [gO, gWe, ne_eq, Nat.reduceEqDiff, not_false_eq_true, true_or, or_true, true_and]
  refine q_133 (by omega) gFr.rf T3 (by omega) (by omega) rfl (fun ν₁ f1 T1 => ?_)
  (conv => whnf); try simp only [gO, gWe, ne_eq, Nat.reduceEqDiff, not_false_eq_true, true_or, or_true, true_and]
  repeat' (first | exact True.intro | (refine ⟨fun hb => ?_, fun hb => ?_⟩ <;> first | (exfalso; omega; done) | exact absurd True.intro hb | ((conv => whnf); try simp only [gO, gWe, ne_eq, Nat.reduceEqDiff, not_false_eq_true, true_or, or_true, true_and])) | (refine ⟨by omega, ?_⟩; (conv => whnf); try simp only [gO, gWe, ne_eq, Nat.reduceEqDiff, not_false_eq_true, true_or, or_true, true_and]) | (refine ⟨fun hb => ?_, ?_⟩ <;> first | (exfalso; omega; done) | exact absurd True.intro hb | ((conv => whnf); try simp only [gO, gWe, ne_eq, Nat.reduceEqDiff, not_false_eq_true, true_or, or_true, true_and])) | fail)
  refine q_108 (by omega) f1 T1 (by omega) rfl (by omega) (fun ν₂ f2 T2 => ?_)
  (conv => whnf); try simp only [gO, gWe, ne_eq, Nat.reduceEqDiff, not_false_eq_true, true_or, or_true, true_and]
  repeat' (first | exact True.intro | (refine ⟨fun hb => ?_, fun hb => ?_⟩ <;> first | (exfalso; omega; done) | exact absurd True.intro hb | ((conv => whnf); try simp only [gO, gWe, ne_eq, Nat.reduceEqDiff, not_false_eq_true, true_or, or_true, true_and])) | (refine ⟨by omega, ?_⟩; (conv => whnf); try simp only [gO, gWe, ne_eq, Nat.reduceEqDiff, not_false_eq_true, true_or, or_true, true_and]) | (refine ⟨fun hb => ?_, ?_⟩ <;> first | (exfalso; omega; done) | exact absurd True.intro hb | ((conv => whnf); try simp only [gO, gWe, ne_eq, Nat.reduceEqDiff, not_false_eq_true, true_or, or_true, true_and])) | fail)
  refine q_133 (by omega) f2 T2 (by omega) (by omega) rfl (fun ν₃ f3 T4 => ?_)
  have T4 : hTk ν₃ 15 (txF a b p (1 + r)) := T4
  clear T1 T2 T3 f1 f2
  have hG3 : iG ν₃ := iG_f (f3 1 (by decide)) (f3 2 (by decide)) (f3 3 (by decide)) (f3 4 (by decide)) (f3 5 (by decide)) (f3 6 (by decide)) (f3 7 (by decide)) (f3 8 (by decide)) A2.1
  have N3 : (ν₃ 1 0) = n := by rw [f3 1 (by decide)]; exact N2
  have tt := T4.tt (by omega)
  have P := tt_P (n := (ν₃ 1 0)) tt (by omega) (by omega) (by omega) (Ne.symm hab) (by omega) (by omega)
  have u3 := tt_3 (hr := pHr (ν₃ 37) (ν₃ 36 1)) (n := (ν₃ 1 0)) (a := a) (by rw [T4.r (by omega), if_pos (by omega)]; rfl) (by rw [T4.r (by omega), if_pos (by omega)]; rfl) (by rw [T4.r (by omega), if_pos (by omega)]; rfl) (by rw [T4.r (by omega), if_neg (by omega)]) (by omega) (by omega)
  have e15 := T4.1
  (conv => whnf); try simp only [gO, gWe, ne_eq, Nat.reduceEqDiff, not_false_eq_true, true_or, or_true, true_and]
  repeat' (first | exact True.intro | (refine ⟨fun hb => ?_, fun hb => ?_⟩ <;> first | (exfalso; omega; done) | exact absurd True.intro hb | ((conv => whnf); try simp only [gO, gWe, ne_eq, Nat.reduceEqDiff, not_false_eq_true, true_or, or_true, true_and])) | (refine ⟨by omega, ?_⟩; (conv => whnf); try simp only [gO, gWe, ne_eq, Nat.reduceEqDiff, not_false_eq_true, true_or, or_true, true_and]) | (refine ⟨fun hb => ?_, ?_⟩ <;> first | (exfalso; omega; done) | exact absurd True.intro hb | ((conv => whnf); try simp only [gO, gWe, ne_eq, Nat.reduceEqDiff, not_false_eq_true, true_or, or_true, true_and])) | fail)
  refine p_110 (K := 2) (by omega) rfl hG3 (T4.T (by omega)) (by omega) (P.2.2.2 _ (by omega)) (Or.inr ⟨by rw [P.2.2.1]; omega, by rw [P.2.2.1]; exact u3.1⟩) (fun c => by rw [P.2.2.1] at c; omega) (fun _ _ ν₄ g4 v4 => ?_)
  rw [P.2.2.1, u3.2]
  have f4 : gFr [36, 37] ω₂ ν₄ := f3.tr (g4.mo (by decide))
  have T5 : hTk ν₄ 15 (txF a b p (1 + r)) := T4.c v4 (g4 37 (by decide))
  have hG4 : iG ν₄ := iG_f (f4 1 (by decide)) (f4 2 (by decide)) (f4 3 (by decide)) (f4 4 (by decide)) (f4 5 (by decide)) (f4 6 (by decide)) (f4 7 (by decide)) (f4 8 (by decide)) A2.1
  have N4 : (ν₄ 1 0) = n := by rw [f4 1 (by decide)]; exact N2
  clear P u3 tt T4 hG3 N3 e15 g4 v4 f3
  have tt := T5.tt (by omega)
  have P := tt_P (n := (ν₄ 1 0)) tt (by omega) (by omega) (by omega) (Ne.symm hab) (by omega) (by omega)
  have u3 := tt_3 (hr := pHr (ν₄ 37) (ν₄ 36 1)) (n := (ν₄ 1 0)) (a := a) (by rw [T5.r (by omega), if_pos (by omega)]; rfl) (by rw [T5.r (by omega), if_pos (by omega)]; rfl) (by rw [T5.r (by omega), if_pos (by omega)]; rfl) (by rw [T5.r (by omega), if_neg (by omega)]) (by omega) (by omega)
  have e15 := T5.1
  (conv => whnf); try simp only [gO, gWe, ne_eq, Nat.reduceEqDiff, not_false_eq_true, true_or, or_true, true_and]
  repeat' (first | exact True.intro | (refine ⟨fun hb => ?_, fun hb => ?_⟩ <;> first | (exfalso; omega; done) | exact absurd True.intro hb | ((conv => whnf); try simp only [gO, gWe, ne_eq, Nat.reduceEqDiff, not_false_eq_true, true_or, or_true, true_and])) | (refine ⟨by omega, ?_⟩; (conv => whnf); try simp only [gO, gWe, ne_eq, Nat.reduceEqDiff, not_false_eq_true, true_or, or_true, true_and]) | (refine ⟨fun hb => ?_, ?_⟩ <;> first | (exfalso; omega; done) | exact absurd True.intro hb | ((conv => whnf); try simp only [gO, gWe, ne_eq, Nat.reduceEqDiff, not_false_eq_true, true_or, or_true, true_and])) | fail)
  refine p_111n (K := 2) (by omega) rfl hG4 (T5.T (by omega)) (by omega) (P.2.2.2 _ (by omega)) ⟨by rw [P.2.2.1]; omega, by rw [P.2.2.1]; exact u3.1⟩ (fun ν₅ g5 v5 => ?_)
  have f5 : gFr [36, 37] ω₂ ν₅ := f4.tr (g5.mo (by decide))
  have k5 : hKp 50 51 ν₅ τ₁ := hKp_c (fun c hc => by rw [f5 c (by simp only [List.mem_cons, List.not_mem_nil, or_false]; omega)]) k2
  clear P u3 tt T5 hG4 N4 e15 g5 v5 f4
  (conv => whnf); try simp only [gO, gWe, ne_eq, Nat.reduceEqDiff, not_false_eq_true, true_or, or_true, true_and]
  repeat' (first | exact True.intro | (refine ⟨fun hb => ?_, fun hb => ?_⟩ <;> first | (exfalso; omega; done) | exact absurd True.intro hb | ((conv => whnf); try simp only [gO, gWe, ne_eq, Nat.reduceEqDiff, not_false_eq_true, true_or, or_true, true_and])) | (refine ⟨by omega, ?_⟩; (conv => whnf); try simp only [gO, gWe, ne_eq, Nat.reduceEqDiff, not_false_eq_true, true_or, or_true, true_and]) | (refine ⟨fun hb => ?_, ?_⟩ <;> first | (exfalso; omega; done) | exact absurd True.intro hb | ((conv => whnf); try simp only [gO, gWe, ne_eq, Nat.reduceEqDiff, not_false_eq_true, true_or, or_true, true_and])) | fail)
  refine p_113_1 (by omega) k5 A1 (fun _ ω g6 gr6 A6 l6 => ?_) (fun l => by rw [l1] at l; omega)
  rw [n1]
  have f6 := h ω ((f5.mo (by decide)).tr (g6.mo (by decide))) gr6 A6 l6
  (conv => whnf); try simp only [gO, gWe, ne_eq, Nat.reduceEqDiff, not_false_eq_true, true_or, or_true, true_and]
  repeat' (first | exact True.intro | (refine ⟨fun hb => ?_, fun hb => ?_⟩ <;> first | (exfalso; omega; done) | exact absurd True.intro hb | ((conv => whnf); try simp only [gO, gWe, ne_eq, Nat.reduceEqDiff, not_false_eq_true, true_or, or_true, true_and])) | (refine ⟨by omega, ?_⟩; (conv => whnf); try simp only [gO, gWe, ne_eq, Nat.reduceEqDiff, not_false_eq_true, true_or, or_true, true_and]) | (refine ⟨fun hb => ?_, ?_⟩ <;> first | (exfalso; omega; done) | exact absurd True.intro hb | ((conv => whnf); try simp only [gO, gWe, ne_eq, Nat.reduceEqDiff, not_false_eq_true, true_or, or_true, true_and])) | fail)
  refine t_81 (by omega) ?_
  rw [gr6.1.2, m1]
  (conv => whnf); try simp only [gO, gWe, ne_eq, Nat.reduceEqDiff, not_false_eq_true, true_or, or_true, true_and]
  repeat' (first | exact True.intro | (refine ⟨fun hb => ?_, fun hb => ?_⟩ <;> first | (exfalso; omega; done) | exact absurd True.intro hb | ((conv => whnf); try simp only [gO, gWe, ne_eq, Nat.reduceEqDiff, not_false_eq_true, true_or, or_true, true_and])) | (refine ⟨by omega, ?_⟩; (conv => whnf); try simp only [gO, gWe, ne_eq, Nat.reduceEqDiff, not_false_eq_true, true_or, or_true, true_and]) | (refine ⟨fun hb => ?_, ?_⟩ <;> first | (exfalso; omega; done) | exact absurd True.intro hb | ((conv => whnf); try simp only [gO, gWe, ne_eq, Nat.reduceEqDiff, not_false_eq_true, true_or, or_true, true_and])) | fail)
  exact f6
theorem r_134b {d : Nat} (hd : 37 ≤ d) {μ ω₁ τ₁ : MU} {Q : GQ} {a b p r y en : Int} {x8 x9 : GV} (hp0 : gRem (gShr y 8) 8 = p) (hr0 : gRem (gShr y 11) 3 = r) (A1 : iA τ₁) (l1 : (τ₁ 0 6) = 0) (n1 : (τ₁ 1 0) = (μ 1 0)) (e1 : (τ₁ 1 1) = (μ 1 1)) (hG1 : iG ω₁) (m1 : (ω₁ 1 0) = (μ 1 0) ∧ (ω₁ 1 1) = (μ 1 1)) (m0 : (μ 1 1) ≤ 18) (n0 : 2 ≤ (μ 1 0) ∧ (μ 1 0) ≤ 9) (a0 : 0 ≤ a ∧ a < (μ 1 0)) (b0 : 0 ≤ b ∧ b < (μ 1 0)) (hab : b ≠ a) (p0 : 0 ≤ p ∧ p < 8) (r0 : 0 ≤ r ∧ r < 3) (T2 : hTk ω₁ 12 (txF a b p (1 + r))) (hk : hKp 50 51 ω₁ τ₁) (hen : en < 14)
    (h : ∀ ω : MU, gFr [0, 1, 2, 3, 4, 5, 6, 7, 8, 9, 10, 11, 12, 13, 14, 15, 16, 17, 18, 36, 37] ω₁ ω → hGr ω τ₁ → iA ω → (ω 0 6) = 0 → Q (some (gI (1))) g_SH ω) : gG g_T g_F (gCall g_T g_F sN sX d) sN sX (g_T 134) Q 149 [gR 0, gI (μ 1 0), gI y, gI a, gI b, gI (μ 1 1), gI en, gI 1, x8, x9] [] g_SH ω₁ 0 0 := by
  have tt := T2.tt (by omega)
  have P := tt_P (n := (ω₁ 1 0)) tt (by omega) (by omega) (by omega) (Ne.symm hab) (by omega) (by omega)
  have u1 := tt_1 (n := (ω₁ 1 0)) tt (by omega) (by omega) (by omega) (Ne.symm hab) (by omega) (by omega)
  have u2 := tt_2 (n := (ω₁ 1 0)) tt (by omega) (by omega) (by omega) (Ne.symm hab)
  have G1 := hG1.1
  have mm : 0 ≤ (μ 1 1) := by omega
  refine gB_gG [333] 300 ?_
  (conv => whnf); try simp only [gO, gWe, ne_eq, Nat.reduceEqDiff, not_false_eq_true, true_or, or_true, true_and]
  refine p_111 (K := 2) (by omega) rfl hG1 (T2.T (by omega)) (by omega) (by omega) (P.2.2.2 _ (by have := T2.1; omega)) (by rw [P.2.2.1]; have := T2.1; omega) (fun ρ ω₂ hAd1 g2 t2 A2 l2 => ?_)
  obtain ⟨d1, d2, d3, d4⟩ := hAd1
  have e0 := d4 0 (by omega)
  have e1' := d4 1 (by omega)
  rw [show pPo (pHr (ω₁ 37) (ω₁ 36 1)) (ω₁ 1 0) 0 = 0 from rfl, u1.1, u1.2.1, u1.2.2.1, u1.2.2.2.1, u1.2.2.2.2.1, m1.2] at e0
  rw [P.2.1, u2.1, u2.2.1, u2.2.2.1, u2.2.2.2.1, u2.2.2.2.2.1, m1.2] at e1'
  have E2 : (ω₂ 1 1) = (μ 1 1) + 2 := by
    rw [g2 1 (by decide), d2.2, m1.2]
    rfl
  have N2 : (ω₂ 1 0) = (μ 1 0) := by rw [g2 1 (by decide), d2.1, m1.1]
  have x0 : xEdge ω₂ (μ 1 1) 0 = a ∧ xEdge ω₂ (μ 1 1) 1 = b ∧ xEdge ω₂ (μ 1 1) 2 = p ∧ xEdge ω₂ (μ 1 1) 3 = 0 ∧ xEdge ω₂ (μ 1 1) 4 = 1 + r := by
    unfold xEdge
    rw [g2 4 (by decide), g2 5 (by decide), g2 6 (by decide), g2 7 (by decide), g2 8 (by decide)]
    rw [show (μ 1 1) + ((0 : Nat) : Int) = (μ 1 1) by omega] at e0
    refine ⟨(if_pos (by omega)).trans ?_, (if_pos (by omega)).trans ?_, (if_pos (by omega)).trans ?_, (if_pos (by omega)).trans ?_, (if_pos (by omega)).trans ?_⟩
    · exact e0.1
    · exact e0.2.1
    · exact e0.2.2.1
    · exact e0.2.2.2.1
    · exact e0.2.2.2.2
  have x1 : xEdge ω₂ ((μ 1 1) + 1) 0 = b ∧ xEdge ω₂ ((μ 1 1) + 1) 4 = 1 := by
    unfold xEdge
    rw [g2 4 (by decide), g2 5 (by decide), g2 6 (by decide), g2 7 (by decide), g2 8 (by decide)]
    rw [show (μ 1 1) + ((1 : Nat) : Int) = (μ 1 1) + 1 by omega] at e1'
    refine ⟨(if_pos (by omega)).trans ?_, (if_pos (by omega)).trans ?_⟩
    · exact e1'.1
    · exact e1'.2.2.2.2
  have T3 : hTk ω₂ 12 (txF a b p (1 + r)) := T2.c t2 (by rw [g2 37 (by decide), d1 37 (by decide)])
  have w2 : gFr [0, 1, 4, 5, 6, 7, 8, 9, 10, 11, 12, 13, 14, 15, 16, 17, 18, 36, 37] ω₁ ω₂ := (d1.mo (by decide)).tr (g2.mo (by decide))
  have k2 : hKp 50 51 ω₂ τ₁ := hKp_c (fun c hc => by rw [g2 c (by simp only [List.mem_cons, List.not_mem_nil, or_false]; omega), d1 c (by simp only [List.mem_cons, List.not_mem_nil, or_false]; omega)]) hk
  clear e0 e1' d1 d2 d3 d4 u1 u2 P tt T2 g2 t2 hk hG1 m1
  have fin := fun x9 => r_134c (d := d) (y := y) (e8 := 2) (x9 := x9) (sN := sN) (sX := sX) hd A2 l2 N2 n0 a0 b0 hab p0 r0 T3 k2 A1 l1 n1 e1 hen (fun ω g6 gr6 A6 l6 => h ω ((w2.mo (by decide)).tr (g6.mo (by decide))) gr6 A6 l6)
  clear h T3 k2 w2 A1 l1 n1 e1
  rw [show ((2 : Nat) : Int) = 2 from rfl]
  (conv => whnf); try simp only [gO, gWe, ne_eq, Nat.reduceEqDiff, not_false_eq_true, true_or, or_true, true_and]
  repeat' (first | exact True.intro | (refine ⟨fun hb => ?_, fun hb => ?_⟩ <;> first | (exfalso; omega; done) | exact absurd True.intro hb | ((conv => whnf); try simp only [gO, gWe, ne_eq, Nat.reduceEqDiff, not_false_eq_true, true_or, or_true, true_and])) | (refine ⟨by omega, ?_⟩; (conv => whnf); try simp only [gO, gWe, ne_eq, Nat.reduceEqDiff, not_false_eq_true, true_or, or_true, true_and]) | (refine ⟨fun hb => ?_, ?_⟩ <;> first | (exfalso; omega; done) | exact absurd True.intro hb | ((conv => whnf); try simp only [gO, gWe, ne_eq, Nat.reduceEqDiff, not_false_eq_true, true_or, or_true, true_and])) | fail)
  refine t_81 (by omega) ?_
  rw [E2]
  (conv => whnf); try simp only [gO, gWe, ne_eq, Nat.reduceEqDiff, not_false_eq_true, true_or, or_true, true_and]
  repeat' (first | exact True.intro | (refine ⟨fun hb => ?_, fun hb => ?_⟩ <;> first | (exfalso; omega; done) | exact absurd True.intro hb | ((conv => whnf); try simp only [gO, gWe, ne_eq, Nat.reduceEqDiff, not_false_eq_true, true_or, or_true, true_and])) | (refine ⟨by omega, ?_⟩; (conv => whnf); try simp only [gO, gWe, ne_eq, Nat.reduceEqDiff, not_false_eq_true, true_or, or_true, true_and]) | (refine ⟨fun hb => ?_, ?_⟩ <;> first | (exfalso; omega; done) | exact absurd True.intro hb | ((conv => whnf); try simp only [gO, gWe, ne_eq, Nat.reduceEqDiff, not_false_eq_true, true_or, or_true, true_and])) | fail)
  refine p_94n (by omega) l2 ?_
  (conv => whnf); try simp only [gO, gWe, ne_eq, Nat.reduceEqDiff, not_false_eq_true, true_or, or_true, true_and]
  repeat' (first | exact True.intro | (refine ⟨fun hb => ?_, fun hb => ?_⟩ <;> first | (exfalso; omega; done) | exact absurd True.intro hb | ((conv => whnf); try simp only [gO, gWe, ne_eq, Nat.reduceEqDiff, not_false_eq_true, true_or, or_true, true_and])) | (refine ⟨by omega, ?_⟩; (conv => whnf); try simp only [gO, gWe, ne_eq, Nat.reduceEqDiff, not_false_eq_true, true_or, or_true, true_and]) | (refine ⟨fun hb => ?_, ?_⟩ <;> first | (exfalso; omega; done) | exact absurd True.intro hb | ((conv => whnf); try simp only [gO, gWe, ne_eq, Nat.reduceEqDiff, not_false_eq_true, true_or, or_true, true_and])) | fail)
  refine t_82 (by omega) A2.1 ?_
  rw [x0.1]
  (conv => whnf); try simp only [gO, gWe, ne_eq, Nat.reduceEqDiff, not_false_eq_true, true_or, or_true, true_and]
  repeat' (first | exact True.intro | (refine ⟨fun hb => ?_, fun hb => ?_⟩ <;> first | (exfalso; omega; done) | exact absurd True.intro hb | ((conv => whnf); try simp only [gO, gWe, ne_eq, Nat.reduceEqDiff, not_false_eq_true, true_or, or_true, true_and])) | (refine ⟨by omega, ?_⟩; (conv => whnf); try simp only [gO, gWe, ne_eq, Nat.reduceEqDiff, not_false_eq_true, true_or, or_true, true_and]) | (refine ⟨fun hb => ?_, ?_⟩ <;> first | (exfalso; omega; done) | exact absurd True.intro hb | ((conv => whnf); try simp only [gO, gWe, ne_eq, Nat.reduceEqDiff, not_false_eq_true, true_or, or_true, true_and])) | fail)
  refine t_82 (by omega) A2.1 ?_
  rw [x0.2.1]
  (conv => whnf); try simp only [gO, gWe, ne_eq, Nat.reduceEqDiff, not_false_eq_true, true_or, or_true, true_and]
  repeat' (first | exact True.intro | (refine ⟨fun hb => ?_, fun hb => ?_⟩ <;> first | (exfalso; omega; done) | exact absurd True.intro hb | ((conv => whnf); try simp only [gO, gWe, ne_eq, Nat.reduceEqDiff, not_false_eq_true, true_or, or_true, true_and])) | (refine ⟨by omega, ?_⟩; (conv => whnf); try simp only [gO, gWe, ne_eq, Nat.reduceEqDiff, not_false_eq_true, true_or, or_true, true_and]) | (refine ⟨fun hb => ?_, ?_⟩ <;> first | (exfalso; omega; done) | exact absurd True.intro hb | ((conv => whnf); try simp only [gO, gWe, ne_eq, Nat.reduceEqDiff, not_false_eq_true, true_or, or_true, true_and])) | fail)
  refine t_82 (by omega) A2.1 ?_
  rw [x0.2.2.1]
  (conv => whnf); try simp only [gO, gWe, ne_eq, Nat.reduceEqDiff, not_false_eq_true, true_or, or_true, true_and]
  repeat' (first | exact True.intro | (refine ⟨fun hb => ?_, fun hb => ?_⟩ <;> first | (exfalso; omega; done) | exact absurd True.intro hb | ((conv => whnf); try simp only [gO, gWe, ne_eq, Nat.reduceEqDiff, not_false_eq_true, true_or, or_true, true_and])) | (refine ⟨by omega, ?_⟩; (conv => whnf); try simp only [gO, gWe, ne_eq, Nat.reduceEqDiff, not_false_eq_true, true_or, or_true, true_and]) | (refine ⟨fun hb => ?_, ?_⟩ <;> first | (exfalso; omega; done) | exact absurd True.intro hb | ((conv => whnf); try simp only [gO, gWe, ne_eq, Nat.reduceEqDiff, not_false_eq_true, true_or, or_true, true_and])) | fail)
  refine t_82 (by omega) A2.1 ?_
  rw [x0.2.2.2.1]
  (conv => whnf); try simp only [gO, gWe, ne_eq, Nat.reduceEqDiff, not_false_eq_true, true_or, or_true, true_and]
  repeat' (first | exact True.intro | (refine ⟨fun hb => ?_, fun hb => ?_⟩ <;> first | (exfalso; omega; done) | exact absurd True.intro hb | ((conv => whnf); try simp only [gO, gWe, ne_eq, Nat.reduceEqDiff, not_false_eq_true, true_or, or_true, true_and])) | (refine ⟨by omega, ?_⟩; (conv => whnf); try simp only [gO, gWe, ne_eq, Nat.reduceEqDiff, not_false_eq_true, true_or, or_true, true_and]) | (refine ⟨fun hb => ?_, ?_⟩ <;> first | (exfalso; omega; done) | exact absurd True.intro hb | ((conv => whnf); try simp only [gO, gWe, ne_eq, Nat.reduceEqDiff, not_false_eq_true, true_or, or_true, true_and])) | fail)
  refine t_82 (by omega) A2.1 ?_
  rw [x0.2.2.2.2]
  (conv => whnf); try simp only [gO, gWe, ne_eq, Nat.reduceEqDiff, not_false_eq_true, true_or, or_true, true_and]
  repeat' (first | exact True.intro | (refine ⟨fun hb => ?_, fun hb => ?_⟩ <;> first | (exfalso; omega; done) | exact absurd True.intro hb | ((conv => whnf); try simp only [gO, gWe, ne_eq, Nat.reduceEqDiff, not_false_eq_true, true_or, or_true, true_and])) | (refine ⟨by omega, ?_⟩; (conv => whnf); try simp only [gO, gWe, ne_eq, Nat.reduceEqDiff, not_false_eq_true, true_or, or_true, true_and]) | (refine ⟨fun hb => ?_, ?_⟩ <;> first | (exfalso; omega; done) | exact absurd True.intro hb | ((conv => whnf); try simp only [gO, gWe, ne_eq, Nat.reduceEqDiff, not_false_eq_true, true_or, or_true, true_and])) | fail)
  refine t_82 (by omega) A2.1 ?_
  rw [x1.1]
  (conv => whnf); try simp only [gO, gWe, ne_eq, Nat.reduceEqDiff, not_false_eq_true, true_or, or_true, true_and]
  repeat' (first | exact True.intro | (refine ⟨fun hb => ?_, fun hb => ?_⟩ <;> first | (exfalso; omega; done) | exact absurd True.intro hb | ((conv => whnf); try simp only [gO, gWe, ne_eq, Nat.reduceEqDiff, not_false_eq_true, true_or, or_true, true_and])) | (refine ⟨by omega, ?_⟩; (conv => whnf); try simp only [gO, gWe, ne_eq, Nat.reduceEqDiff, not_false_eq_true, true_or, or_true, true_and]) | (refine ⟨fun hb => ?_, ?_⟩ <;> first | (exfalso; omega; done) | exact absurd True.intro hb | ((conv => whnf); try simp only [gO, gWe, ne_eq, Nat.reduceEqDiff, not_false_eq_true, true_or, or_true, true_and])) | fail)
  refine t_82 (by omega) A2.1 ?_
  rw [x1.2]
  (conv => whnf); try simp only [gO, gWe, ne_eq, Nat.reduceEqDiff, not_false_eq_true, true_or, or_true, true_and]
  repeat' (first | exact True.intro | (refine ⟨fun hb => ?_, fun hb => ?_⟩ <;> first | (exfalso; omega; done) | exact absurd True.intro hb | ((conv => whnf); try simp only [gO, gWe, ne_eq, Nat.reduceEqDiff, not_false_eq_true, true_or, or_true, true_and])) | (refine ⟨by omega, ?_⟩; (conv => whnf); try simp only [gO, gWe, ne_eq, Nat.reduceEqDiff, not_false_eq_true, true_or, or_true, true_and]) | (refine ⟨fun hb => ?_, ?_⟩ <;> first | (exfalso; omega; done) | exact absurd True.intro hb | ((conv => whnf); try simp only [gO, gWe, ne_eq, Nat.reduceEqDiff, not_false_eq_true, true_or, or_true, true_and])) | fail)
  exact fin _
theorem r_134 {D : Nat} (hD : 38 ≤ D) {μ : MU} {Q : GQ} {y : Int} (hA : iA μ) (l0 : (μ 0 6) = 0) (n0 : 2 ≤ (μ 1 0) ∧ (μ 1 0) ≤ 9) (m0 : (μ 1 1) ≤ 18) (y0 : 0 ≤ y ∧ y < 2147483648)
    (h : ∀ ω : MU, gFr [0, 1, 2, 3, 4, 5, 6, 7, 8, 9, 10, 11, 12, 13, 14, 15, 16, 17, 18, 36, 37, 50, 51, 52, 53, 54, 55, 56, 57, 58, 59, 60] μ ω → hGr ω μ → iA ω → (ω 0 6) = 0 → Q (some (gI (1))) g_SH ω) : gCall g_T g_F sN sX D 134 [gR 0, gI (μ 1 0), gI y] g_SH μ Q := by
  have hG := hA.1
  have G := hG.1
  have a0 := g_rm (a := y) (b := (μ 1 0)) y0.1 y0.2 (by omega) (by omega)
  have s4 := g_s4 y0
  have s8 := g_s8 y0
  have s11 := g_s11 y0
  have q0 := g_rm (a := gShr y 4) (b := (μ 1 0) - 1) s4.1 (by omega) (by omega) (by omega)
  have b0 := g_rm (a := gRem y (μ 1 0) + 1 + gRem (gShr y 4) ((μ 1 0) - 1)) (b := (μ 1 0)) (by omega) (by omega) (by omega) (by omega)
  have hab : gRem (gRem y (μ 1 0) + 1 + gRem (gShr y 4) ((μ 1 0) - 1)) (μ 1 0) ≠ gRem y (μ 1 0) := ab_ne (by omega) a0 q0
  have p0 := g_rm (a := gShr y 8) (b := 8) s8.1 (by omega) (by omega) (by omega)
  have r0 := g_rm (a := gShr y 11) (b := 3) s11.1 (by omega) (by omega) (by omega)
  obtain ⟨b, hb0⟩ : ∃ b, gRem (gRem y (μ 1 0) + 1 + gRem (gShr y 4) ((μ 1 0) - 1)) (μ 1 0) = b := ⟨_, rfl⟩
  obtain ⟨a, ha0⟩ : ∃ a, gRem y (μ 1 0) = a := ⟨_, rfl⟩
  obtain ⟨p, hp0⟩ : ∃ p, gRem (gShr y 8) 8 = p := ⟨_, rfl⟩
  obtain ⟨r, hr0⟩ : ∃ r, gRem (gShr y 11) 3 = r := ⟨_, rfl⟩
  rw [hb0] at b0 hab
  rw [ha0] at a0 hab hb0
  rw [hp0] at p0
  rw [hr0] at r0
  obtain ⟨d, rfl⟩ := gD (show 1 ≤ D by omega)
  refine gC 300 [149] rfl ?_
  (conv => whnf); try simp only [gO, gWe, ne_eq, Nat.reduceEqDiff, not_false_eq_true, true_or, or_true, true_and]
  repeat' (first | exact True.intro | (refine ⟨fun hb => ?_, fun hb => ?_⟩ <;> first | (exfalso; omega; done) | exact absurd True.intro hb | ((conv => whnf); try simp only [gO, gWe, ne_eq, Nat.reduceEqDiff, not_false_eq_true, true_or, or_true, true_and])) | (refine ⟨by omega, ?_⟩; (conv => whnf); try simp only [gO, gWe, ne_eq, Nat.reduceEqDiff, not_false_eq_true, true_or, or_true, true_and]) | (refine ⟨fun hb => ?_, ?_⟩ <;> first | (exfalso; omega; done) | exact absurd True.intro hb | ((conv => whnf); try simp only [gO, gWe, ne_eq, Nat.reduceEqDiff, not_false_eq_true, true_or, or_true, true_and])) | fail)
  refine p_109 (by omega) (fun ν₀ h0 t0 => ?_)
  have f0 : gFr [36, 37] μ ν₀ := h0.mo (by decide)
  have T0 : hTk ν₀ 0 (txF a b p (1 + r)) := ⟨t0, fun k k0 k1 => by omega⟩
  (conv => whnf); try simp only [gO, gWe, ne_eq, Nat.reduceEqDiff, not_false_eq_true, true_or, or_true, true_and]
  repeat' (first | exact True.intro | (refine ⟨fun hb => ?_, fun hb => ?_⟩ <;> first | (exfalso; omega; done) | exact absurd True.intro hb | ((conv => whnf); try simp only [gO, gWe, ne_eq, Nat.reduceEqDiff, not_false_eq_true, true_or, or_true, true_and])) | (refine ⟨by omega, ?_⟩; (conv => whnf); try simp only [gO, gWe, ne_eq, Nat.reduceEqDiff, not_false_eq_true, true_or, or_true, true_and]) | (refine ⟨fun hb => ?_, ?_⟩ <;> first | (exfalso; omega; done) | exact absurd True.intro hb | ((conv => whnf); try simp only [gO, gWe, ne_eq, Nat.reduceEqDiff, not_false_eq_true, true_or, or_true, true_and])) | fail)
  rw [ha0]
  (conv => whnf); try simp only [gO, gWe, ne_eq, Nat.reduceEqDiff, not_false_eq_true, true_or, or_true, true_and]
  repeat' (first | exact True.intro | (refine ⟨fun hb => ?_, fun hb => ?_⟩ <;> first | (exfalso; omega; done) | exact absurd True.intro hb | ((conv => whnf); try simp only [gO, gWe, ne_eq, Nat.reduceEqDiff, not_false_eq_true, true_or, or_true, true_and])) | (refine ⟨by omega, ?_⟩; (conv => whnf); try simp only [gO, gWe, ne_eq, Nat.reduceEqDiff, not_false_eq_true, true_or, or_true, true_and]) | (refine ⟨fun hb => ?_, ?_⟩ <;> first | (exfalso; omega; done) | exact absurd True.intro hb | ((conv => whnf); try simp only [gO, gWe, ne_eq, Nat.reduceEqDiff, not_false_eq_true, true_or, or_true, true_and])) | fail)
  rw [hb0]
  (conv => whnf); try simp only [gO, gWe, ne_eq, Nat.reduceEqDiff, not_false_eq_true, true_or, or_true, true_and]
  repeat' (first | exact True.intro | (refine ⟨fun hb => ?_, fun hb => ?_⟩ <;> first | (exfalso; omega; done) | exact absurd True.intro hb | ((conv => whnf); try simp only [gO, gWe, ne_eq, Nat.reduceEqDiff, not_false_eq_true, true_or, or_true, true_and])) | (refine ⟨by omega, ?_⟩; (conv => whnf); try simp only [gO, gWe, ne_eq, Nat.reduceEqDiff, not_false_eq_true, true_or, or_true, true_and]) | (refine ⟨fun hb => ?_, ?_⟩ <;> first | (exfalso; omega; done) | exact absurd True.intro hb | ((conv => whnf); try simp only [gO, gWe, ne_eq, Nat.reduceEqDiff, not_false_eq_true, true_or, or_true, true_and])) | fail)
  refine t_81 (by omega) ?_
  rw [h0 1 (by decide)]
  (conv => whnf); try simp only [gO, gWe, ne_eq, Nat.reduceEqDiff, not_false_eq_true, true_or, or_true, true_and]
  repeat' (first | exact True.intro | (refine ⟨fun hb => ?_, fun hb => ?_⟩ <;> first | (exfalso; omega; done) | exact absurd True.intro hb | ((conv => whnf); try simp only [gO, gWe, ne_eq, Nat.reduceEqDiff, not_false_eq_true, true_or, or_true, true_and])) | (refine ⟨by omega, ?_⟩; (conv => whnf); try simp only [gO, gWe, ne_eq, Nat.reduceEqDiff, not_false_eq_true, true_or, or_true, true_and]) | (refine ⟨fun hb => ?_, ?_⟩ <;> first | (exfalso; omega; done) | exact absurd True.intro hb | ((conv => whnf); try simp only [gO, gWe, ne_eq, Nat.reduceEqDiff, not_false_eq_true, true_or, or_true, true_and])) | fail)
  refine q_133 (by omega) f0 T0 (by omega) (by omega) rfl (fun ν₁ f1 T1 => ?_)
  (conv => whnf); try simp only [gO, gWe, ne_eq, Nat.reduceEqDiff, not_false_eq_true, true_or, or_true, true_and]
  repeat' (first | exact True.intro | (refine ⟨fun hb => ?_, fun hb => ?_⟩ <;> first | (exfalso; omega; done) | exact absurd True.intro hb | ((conv => whnf); try simp only [gO, gWe, ne_eq, Nat.reduceEqDiff, not_false_eq_true, true_or, or_true, true_and])) | (refine ⟨by omega, ?_⟩; (conv => whnf); try simp only [gO, gWe, ne_eq, Nat.reduceEqDiff, not_false_eq_true, true_or, or_true, true_and]) | (refine ⟨fun hb => ?_, ?_⟩ <;> first | (exfalso; omega; done) | exact absurd True.intro hb | ((conv => whnf); try simp only [gO, gWe, ne_eq, Nat.reduceEqDiff, not_false_eq_true, true_or, or_true, true_and])) | fail)
  refine q_108 (by omega) f1 T1 (by omega) rfl (by omega) (fun ν₂ f2 T2 => ?_)
  (conv => whnf); try simp only [gO, gWe, ne_eq, Nat.reduceEqDiff, not_false_eq_true, true_or, or_true, true_and]
  repeat' (first | exact True.intro | (refine ⟨fun hb => ?_, fun hb => ?_⟩ <;> first | (exfalso; omega; done) | exact absurd True.intro hb | ((conv => whnf); try simp only [gO, gWe, ne_eq, Nat.reduceEqDiff, not_false_eq_true, true_or, or_true, true_and])) | (refine ⟨by omega, ?_⟩; (conv => whnf); try simp only [gO, gWe, ne_eq, Nat.reduceEqDiff, not_false_eq_true, true_or, or_true, true_and]) | (refine ⟨fun hb => ?_, ?_⟩ <;> first | (exfalso; omega; done) | exact absurd True.intro hb | ((conv => whnf); try simp only [gO, gWe, ne_eq, Nat.reduceEqDiff, not_false_eq_true, true_or, or_true, true_and])) | fail)
  rw [hp0]
  refine q_108 (by omega) f2 T2 (by omega) rfl (by omega) (fun ν₃ f3 T3 => ?_)
  (conv => whnf); try simp only [gO, gWe, ne_eq, Nat.reduceEqDiff, not_false_eq_true, true_or, or_true, true_and]
  repeat' (first | exact True.intro | (refine ⟨fun hb => ?_, fun hb => ?_⟩ <;> first | (exfalso; omega; done) | exact absurd True.intro hb | ((conv => whnf); try simp only [gO, gWe, ne_eq, Nat.reduceEqDiff, not_false_eq_true, true_or, or_true, true_and])) | (refine ⟨by omega, ?_⟩; (conv => whnf); try simp only [gO, gWe, ne_eq, Nat.reduceEqDiff, not_false_eq_true, true_or, or_true, true_and]) | (refine ⟨fun hb => ?_, ?_⟩ <;> first | (exfalso; omega; done) | exact absurd True.intro hb | ((conv => whnf); try simp only [gO, gWe, ne_eq, Nat.reduceEqDiff, not_false_eq_true, true_or, or_true, true_and])) | fail)
  refine q_108 (by omega) f3 T3 (by omega) rfl (by omega) (fun ν₄ f4 T4 => ?_)
  (conv => whnf); try simp only [gO, gWe, ne_eq, Nat.reduceEqDiff, not_false_eq_true, true_or, or_true, true_and]
  repeat' (first | exact True.intro | (refine ⟨fun hb => ?_, fun hb => ?_⟩ <;> first | (exfalso; omega; done) | exact absurd True.intro hb | ((conv => whnf); try simp only [gO, gWe, ne_eq, Nat.reduceEqDiff, not_false_eq_true, true_or, or_true, true_and])) | (refine ⟨by omega, ?_⟩; (conv => whnf); try simp only [gO, gWe, ne_eq, Nat.reduceEqDiff, not_false_eq_true, true_or, or_true, true_and]) | (refine ⟨fun hb => ?_, ?_⟩ <;> first | (exfalso; omega; done) | exact absurd True.intro hb | ((conv => whnf); try simp only [gO, gWe, ne_eq, Nat.reduceEqDiff, not_false_eq_true, true_or, or_true, true_and])) | fail)
  refine q_133 (by omega) f4 T4 (by omega) (by omega) rfl (fun ν₅ f5 T5 => ?_)
  (conv => whnf); try simp only [gO, gWe, ne_eq, Nat.reduceEqDiff, not_false_eq_true, true_or, or_true, true_and]
  repeat' (first | exact True.intro | (refine ⟨fun hb => ?_, fun hb => ?_⟩ <;> first | (exfalso; omega; done) | exact absurd True.intro hb | ((conv => whnf); try simp only [gO, gWe, ne_eq, Nat.reduceEqDiff, not_false_eq_true, true_or, or_true, true_and])) | (refine ⟨by omega, ?_⟩; (conv => whnf); try simp only [gO, gWe, ne_eq, Nat.reduceEqDiff, not_false_eq_true, true_or, or_true, true_and]) | (refine ⟨fun hb => ?_, ?_⟩ <;> first | (exfalso; omega; done) | exact absurd True.intro hb | ((conv => whnf); try simp only [gO, gWe, ne_eq, Nat.reduceEqDiff, not_false_eq_true, true_or, or_true, true_and])) | fail)
  refine q_108 (by omega) f5 T5 (by omega) rfl (by omega) (fun ν₆ f6 T6 => ?_)
  (conv => whnf); try simp only [gO, gWe, ne_eq, Nat.reduceEqDiff, not_false_eq_true, true_or, or_true, true_and]
  repeat' (first | exact True.intro | (refine ⟨fun hb => ?_, fun hb => ?_⟩ <;> first | (exfalso; omega; done) | exact absurd True.intro hb | ((conv => whnf); try simp only [gO, gWe, ne_eq, Nat.reduceEqDiff, not_false_eq_true, true_or, or_true, true_and])) | (refine ⟨by omega, ?_⟩; (conv => whnf); try simp only [gO, gWe, ne_eq, Nat.reduceEqDiff, not_false_eq_true, true_or, or_true, true_and]) | (refine ⟨fun hb => ?_, ?_⟩ <;> first | (exfalso; omega; done) | exact absurd True.intro hb | ((conv => whnf); try simp only [gO, gWe, ne_eq, Nat.reduceEqDiff, not_false_eq_true, true_or, or_true, true_and])) | fail)
  rw [hr0]
  refine q_108 (by omega) f6 T6 (by omega) (show 48 + (1 + r) = 49 + r by omega) (by omega) (fun ν₇ f7 T7 => ?_)
  (conv => whnf); try simp only [gO, gWe, ne_eq, Nat.reduceEqDiff, not_false_eq_true, true_or, or_true, true_and]
  repeat' (first | exact True.intro | (refine ⟨fun hb => ?_, fun hb => ?_⟩ <;> first | (exfalso; omega; done) | exact absurd True.intro hb | ((conv => whnf); try simp only [gO, gWe, ne_eq, Nat.reduceEqDiff, not_false_eq_true, true_or, or_true, true_and])) | (refine ⟨by omega, ?_⟩; (conv => whnf); try simp only [gO, gWe, ne_eq, Nat.reduceEqDiff, not_false_eq_true, true_or, or_true, true_and]) | (refine ⟨fun hb => ?_, ?_⟩ <;> first | (exfalso; omega; done) | exact absurd True.intro hb | ((conv => whnf); try simp only [gO, gWe, ne_eq, Nat.reduceEqDiff, not_false_eq_true, true_or, or_true, true_and])) | fail)
  refine q_108 (by omega) f7 T7 (by omega) rfl (by omega) (fun ν₈ f8 T8 => ?_)
  (conv => whnf); try simp only [gO, gWe, ne_eq, Nat.reduceEqDiff, not_false_eq_true, true_or, or_true, true_and]
  repeat' (first | exact True.intro | (refine ⟨fun hb => ?_, fun hb => ?_⟩ <;> first | (exfalso; omega; done) | exact absurd True.intro hb | ((conv => whnf); try simp only [gO, gWe, ne_eq, Nat.reduceEqDiff, not_false_eq_true, true_or, or_true, true_and])) | (refine ⟨by omega, ?_⟩; (conv => whnf); try simp only [gO, gWe, ne_eq, Nat.reduceEqDiff, not_false_eq_true, true_or, or_true, true_and]) | (refine ⟨fun hb => ?_, ?_⟩ <;> first | (exfalso; omega; done) | exact absurd True.intro hb | ((conv => whnf); try simp only [gO, gWe, ne_eq, Nat.reduceEqDiff, not_false_eq_true, true_or, or_true, true_and])) | fail)
  refine q_133 (by omega) f8 T8 (by omega) (by omega) rfl (fun ν₉ f9 T9 => ?_)
  (conv => whnf); try simp only [gO, gWe, ne_eq, Nat.reduceEqDiff, not_false_eq_true, true_or, or_true, true_and]
  repeat' (first | exact True.intro | (refine ⟨fun hb => ?_, fun hb => ?_⟩ <;> first | (exfalso; omega; done) | exact absurd True.intro hb | ((conv => whnf); try simp only [gO, gWe, ne_eq, Nat.reduceEqDiff, not_false_eq_true, true_or, or_true, true_and])) | (refine ⟨by omega, ?_⟩; (conv => whnf); try simp only [gO, gWe, ne_eq, Nat.reduceEqDiff, not_false_eq_true, true_or, or_true, true_and]) | (refine ⟨fun hb => ?_, ?_⟩ <;> first | (exfalso; omega; done) | exact absurd True.intro hb | ((conv => whnf); try simp only [gO, gWe, ne_eq, Nat.reduceEqDiff, not_false_eq_true, true_or, or_true, true_and])) | fail)
  refine q_108 (by omega) f9 T9 (by omega) rfl (by omega) (fun ν₁₀ f10 T10 => ?_)
  (conv => whnf); try simp only [gO, gWe, ne_eq, Nat.reduceEqDiff, not_false_eq_true, true_or, or_true, true_and]
  repeat' (first | exact True.intro | (refine ⟨fun hb => ?_, fun hb => ?_⟩ <;> first | (exfalso; omega; done) | exact absurd True.intro hb | ((conv => whnf); try simp only [gO, gWe, ne_eq, Nat.reduceEqDiff, not_false_eq_true, true_or, or_true, true_and])) | (refine ⟨by omega, ?_⟩; (conv => whnf); try simp only [gO, gWe, ne_eq, Nat.reduceEqDiff, not_false_eq_true, true_or, or_true, true_and]) | (refine ⟨fun hb => ?_, ?_⟩ <;> first | (exfalso; omega; done) | exact absurd True.intro hb | ((conv => whnf); try simp only [gO, gWe, ne_eq, Nat.reduceEqDiff, not_false_eq_true, true_or, or_true, true_and])) | fail)
  refine q_133 (by omega) f10 T10 (by omega) (by omega) rfl (fun ν₁₁ f11 T11 => ?_)
  (conv => whnf); try simp only [gO, gWe, ne_eq, Nat.reduceEqDiff, not_false_eq_true, true_or, or_true, true_and]
  repeat' (first | exact True.intro | (refine ⟨fun hb => ?_, fun hb => ?_⟩ <;> first | (exfalso; omega; done) | exact absurd True.intro hb | ((conv => whnf); try simp only [gO, gWe, ne_eq, Nat.reduceEqDiff, not_false_eq_true, true_or, or_true, true_and])) | (refine ⟨by omega, ?_⟩; (conv => whnf); try simp only [gO, gWe, ne_eq, Nat.reduceEqDiff, not_false_eq_true, true_or, or_true, true_and]) | (refine ⟨fun hb => ?_, ?_⟩ <;> first | (exfalso; omega; done) | exact absurd True.intro hb | ((conv => whnf); try simp only [gO, gWe, ne_eq, Nat.reduceEqDiff, not_false_eq_true, true_or, or_true, true_and])) | fail)
  refine q_108 (by omega) f11 T11 (by omega) rfl (by omega) (fun τ fτ T12 => ?_)
  clear f0 T0 f1 T1 f2 T2 f3 T3 f4 T4 f5 T5 f6 T6 f7 T7 f8 T8 f9 T9 f10 T10 f11 T11 h0 t0
  have T12 : hTk τ 12 (txF a b p (1 + r)) := T12
  have hGτ : iG τ := iG_f (fτ 1 (by decide)) (fτ 2 (by decide)) (fτ 3 (by decide)) (fτ 4 (by decide)) (fτ 5 (by decide)) (fτ 6 (by decide)) (fτ 7 (by decide)) (fτ 8 (by decide)) hG
  have nτ : (τ 1 0) = (μ 1 0) := by rw [fτ 1 (by decide)]
  have mτ : (τ 1 1) = (μ 1 1) := by rw [fτ 1 (by decide)]
  have tt := T12.tt (by omega)
  have P := tt_P (n := (τ 1 0)) tt (by omega) (by omega) (by omega) (Ne.symm hab) (by omega) (by omega)
  (conv => whnf); try simp only [gO, gWe, ne_eq, Nat.reduceEqDiff, not_false_eq_true, true_or, or_true, true_and]
  repeat' (first | exact True.intro | (refine ⟨fun hb => ?_, fun hb => ?_⟩ <;> first | (exfalso; omega; done) | exact absurd True.intro hb | ((conv => whnf); try simp only [gO, gWe, ne_eq, Nat.reduceEqDiff, not_false_eq_true, true_or, or_true, true_and])) | (refine ⟨by omega, ?_⟩; (conv => whnf); try simp only [gO, gWe, ne_eq, Nat.reduceEqDiff, not_false_eq_true, true_or, or_true, true_and]) | (refine ⟨fun hb => ?_, ?_⟩ <;> first | (exfalso; omega; done) | exact absurd True.intro hb | ((conv => whnf); try simp only [gO, gWe, ne_eq, Nat.reduceEqDiff, not_false_eq_true, true_or, or_true, true_and])) | fail)
  refine p_110 (K := 2) (by omega) rfl hGτ (T12.T (by omega)) (by omega) (P.2.2.2 _ (by have := T12.1; omega)) (Or.inl (by rw [P.2.2.1]; have := T12.1; omega)) (fun _ τ₁ g1 v1 => ?_) (fun c => by rw [P.2.2.1] at c; have := T12.1; omega)
  have f1 : gFr [36, 37] μ τ₁ := fτ.tr (g1.mo (by decide))
  have A1 : iA τ₁ := iA_c (f1.st (by decide)) (by rw [f1 0 (by decide)]) (f1 24 (by decide)) (f1 25 (by decide)) (f1 34 (by decide)) hA
  have T1 : hTk τ₁ 12 (txF a b p (1 + r)) := T12.c v1 (g1 37 (by decide))
  have n1 : (τ₁ 1 0) = (μ 1 0) := by rw [f1 1 (by decide)]
  clear P tt T12 hGτ nτ mτ fτ g1 v1
  (conv => whnf); try simp only [gO, gWe, ne_eq, Nat.reduceEqDiff, not_false_eq_true, true_or, or_true, true_and]
  repeat' (first | exact True.intro | (refine ⟨fun hb => ?_, fun hb => ?_⟩ <;> first | (exfalso; omega; done) | exact absurd True.intro hb | ((conv => whnf); try simp only [gO, gWe, ne_eq, Nat.reduceEqDiff, not_false_eq_true, true_or, or_true, true_and])) | (refine ⟨by omega, ?_⟩; (conv => whnf); try simp only [gO, gWe, ne_eq, Nat.reduceEqDiff, not_false_eq_true, true_or, or_true, true_and]) | (refine ⟨fun hb => ?_, ?_⟩ <;> first | (exfalso; omega; done) | exact absurd True.intro hb | ((conv => whnf); try simp only [gO, gWe, ne_eq, Nat.reduceEqDiff, not_false_eq_true, true_or, or_true, true_and])) | fail)
  refine p_112_1 (by omega) A1 (fun ω₁ k1 hk => ?_)
  rw [n1]
  have l1 : (τ₁ 0 6) = 0 := by rw [f1 0 (by decide)]; exact l0
  have w1 : gFr [36, 37, 50, 51, 52, 53, 54, 55, 56, 57, 58, 59, 60] μ ω₁ := (f1.mo (by decide)).tr (k1.mo (by decide))
  have hG1 : iG ω₁ := iG_f (w1 1 (by decide)) (w1 2 (by decide)) (w1 3 (by decide)) (w1 4 (by decide)) (w1 5 (by decide)) (w1 6 (by decide)) (w1 7 (by decide)) (w1 8 (by decide)) hG
  have m1 : (ω₁ 1 0) = (μ 1 0) ∧ (ω₁ 1 1) = (μ 1 1) := by rw [w1 1 (by decide)]; exact ⟨rfl, rfl⟩
  have T2 : hTk ω₁ 12 (txF a b p (1 + r)) := T1.c (by rw [k1 36 (by decide)]) (k1 37 (by decide))
  have fin := fun en hen x8 x9 => r_134b (d := d) (y := y) (en := en) (x8 := x8) (x9 := x9) (Q := Q) (sN := sN) (sX := sX) (by omega) hp0 hr0 A1 l1 n1 (by rw [f1 1 (by decide)]) hG1 m1 m0 n0 a0 b0 hab p0 r0 T2 hk hen (fun ω g6 gr6 A6 l6 => h ω ((w1.mo (by decide)).tr (g6.mo (by decide))) (hGr_s (fun c c0 c1 => f1 c (by simp only [List.mem_cons, List.not_mem_nil, or_false]; omega)) gr6) A6 l6)
  (conv => whnf); try simp only [gO, gWe, ne_eq, Nat.reduceEqDiff, not_false_eq_true, true_or, or_true, true_and]
  repeat' (first | exact True.intro | (refine ⟨fun hb => ?_, fun hb => ?_⟩ <;> first | (exfalso; omega; done) | exact absurd True.intro hb | ((conv => whnf); try simp only [gO, gWe, ne_eq, Nat.reduceEqDiff, not_false_eq_true, true_or, or_true, true_and])) | (refine ⟨by omega, ?_⟩; (conv => whnf); try simp only [gO, gWe, ne_eq, Nat.reduceEqDiff, not_false_eq_true, true_or, or_true, true_and]) | (refine ⟨fun hb => ?_, ?_⟩ <;> first | (exfalso; omega; done) | exact absurd True.intro hb | ((conv => whnf); try simp only [gO, gWe, ne_eq, Nat.reduceEqDiff, not_false_eq_true, true_or, or_true, true_and])) | fail)
  exact fin _ (by omega) _ _
