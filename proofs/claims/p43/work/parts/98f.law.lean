variable {sN : Int} {sX : Int → Int}
/-! the law -/
/-- laid out, with the law's two rows -/
def iZ (N : Int) (X : Int → Int) (n : Int) (μ : MU) : Prop := iW μ ∧ iX μ ∧ (μ 1 0) = n ∧ ∀ j : Int, 0 ≤ j → j < n → ((μ 2) j = xW0 N X j ∧ (μ 3) j = xG0 N X j) ∧ (μ 61) j = xW0 N X j ∧ (μ 62) j = xG0 N X j
theorem iZ.lw {N : Int} {X : Int → Int} {n : Int} {μ : MU} (h : iZ N X n μ) : hLw μ := fun i i0 i1 => by
  have a := h.2.2.2 i i0 (by have := h.2.2.1; omega)
  exact ⟨a.2.1.trans a.1.1.symm, a.2.2.trans a.1.2.symm⟩
theorem iZ.c {N : Int} {X : Int → Int} {n : Int} {μ ν : MU} (h : iZ N X n μ) (hW : iW ν) (hx : iX ν) (h1 : ν 1 = μ 1) (h2 : ν 2 = μ 2) (h3 : ν 3 = μ 3) (h4 : ν 61 = μ 61) (h5 : ν 62 = μ 62) : iZ N X n ν := ⟨hW, hx, by rw [h1]; exact h.2.2.1, fun j j0 j1 => by rw [h2, h3, h4, h5]; exact h.2.2.2 j j0 j1⟩
theorem iZ.r {N : Int} {X : Int → Int} {n : Int} {μ ν : MU} (h : iZ N X n μ) (hν : hRd μ ν) : iZ N X n ν := h.c (hν.W h.1) (hν.X h.2.1) (hν 1 (by decide)) (hν 2 (by decide)) (hν 3 (by decide)) (hν 61 (by decide)) (hν 62 (by decide))
theorem iZ.f {N : Int} {X : Int → Int} {n : Int} {μ ν : MU} (h : iZ N X n μ) (hν : gFr [24, 25, 26, 27, 28, 29, 30, 31, 32, 34, 35] μ ν) (hW : iW ν) (hx : iX ν) : iZ N X n ν := h.c hW hx (hν 1 (by decide)) (hν 2 (by decide)) (hν 3 (by decide)) (hν 61 (by decide)) (hν 62 (by decide))
theorem hRd.Al {μ ν : MU} (h : hRd μ ν) (x : iAl μ) : iAl ν := by
  unfold iAl xMa xBe at *
  rw [h 9 (by decide), h 23 (by decide), h 24 (by decide), h 1 (by decide), h 14 (by decide), h 15 (by decide), h 34 (by decide), xOn_c h.st, xWd_c h.st]
  exact x
theorem xCa_0 {μ : MU} (hG : iG μ) : 0 ≤ xCa μ (μ 25) ∧ xCa μ (μ 25) ≤ 400 * ((μ 9 1) - 1).toNat := by
  have := xCa_b (pl := (μ 25)) hG ((μ 9 1) - 1).toNat
  unfold xCa
  omega
section LW
variable {D : Nat} {y n : Int}
theorem s_128 (hD : 38 ≤ D) {μ : MU} {Q : GQ} (hZ : iZ sN sX n μ) (h : ∀ ρ : MU, hRd μ ρ → iZ sN sX n ρ → Q (some (gI (1))) g_SH ρ) : gCall g_T g_F sN sX D 128 [gR 0, gR 61, gR 62] g_SH μ Q := r_128 (by omega) hZ.1 hZ.lw hZ.2.1 hRd.rf (fun ρ hρ => h ρ hρ (hZ.r hρ))
theorem law_5 (hD : 40 ≤ D) {μ ρ : MU} {e7 e8 e9 e10 e11 : Int} (n0 : 2 ≤ n ∧ n ≤ 9) (hZ : iZ sN sX n μ) (hk : hKp 39 40 μ ρ) (hWρ : iW ρ) (nρ : (ρ 1 0) = n) (hS : hS2 μ = hS2 ρ) : gG g_T g_F (gCall g_T g_F sN sX D) sN sX (g_T 136) (fun v _ _ => v = some (gI 1)) 407 [gN 1, gR 0, gR 61, gR 62, gI y, gI n, gI 1, gI e7, gI e8, gI e9, gI e10, gI e11, gN 2, gN 2, gN 2] [] g_SH μ 599937 7300556 := by
  have fin : ∀ (b : Int) (ν : MU), (b = 0 ∨ b = 1) → hRd μ ν → gCall g_T g_F sN sX D 96 [gR 0, gI b] g_SH ν (fun r sh' μ' => ∀ v : Int, r = some (gI v) → sh' = g_SH ∧ v = xCa μ' (μ' 25) ∧ gFr [24, 25, 26, 27, 28, 29, 30, 31, 32, 34, 35] μ μ' ∧ iZ sN sX n μ') := fun b ν _ hν => p_96 (by omega) (hZ.r hν).1 (hZ.r hν).2.1 (fun τ hτ hWτ hxτ v hv => by
    cases hv
    exact ⟨rfl, rfl, (gFr.mo (l := [31, 32]) hν (by decide)).tr hτ, (hZ.r hν).f hτ hWτ hxτ⟩)
  clear fin
  have tail : ∀ (τ : MU) (sw : Int), gFr [24, 25, 26, 27, 28, 29, 30, 31, 32, 34, 35] μ τ → iZ sN sX n τ → sw = xCa τ (τ 25) → gG g_T g_F (gCall g_T g_F sN sX D) sN sX (g_T 136) (fun v _ _ => v = some (gI 1)) 434 [gN 1, gR 0, gR 61, gR 62, gI y, gI n, gI 1, gI e7, gI e8, gI e9, gI e10, gI e11, gL (hS2 ρ), gN 2, gI sw] [] g_SH τ 599937 7300556 := by
    intro τ sw fτ zτ hsw
    have g0 := zτ.2.2.2 0 (by omega) (by omega)
    refine gB_gG [] 300 ?_
    (conv => whnf); try simp only [gO, gWe, ne_eq, Nat.reduceEqDiff, not_false_eq_true, true_or, or_true, true_and]
    repeat' (first | exact True.intro | (refine ⟨fun hb => ?_, fun hb => ?_⟩ <;> first | (exfalso; omega; done) | exact absurd True.intro hb | ((conv => whnf); try simp only [gO, gWe, ne_eq, Nat.reduceEqDiff, not_false_eq_true, true_or, or_true, true_and])) | (refine ⟨by omega, ?_⟩; (conv => whnf); try simp only [gO, gWe, ne_eq, Nat.reduceEqDiff, not_false_eq_true, true_or, or_true, true_and]) | (refine ⟨fun hb => ?_, ?_⟩ <;> first | (exfalso; omega; done) | exact absurd True.intro hb | ((conv => whnf); try simp only [gO, gWe, ne_eq, Nat.reduceEqDiff, not_false_eq_true, true_or, or_true, true_and])) | fail)
    refine r_94 (by omega) zτ.1 hRd.rf (fun τ₁ h1 => ?_)
    rw [← hsw]
    have z1 := zτ.r h1
    (conv => whnf); try simp only [gO, gWe, ne_eq, Nat.reduceEqDiff, not_false_eq_true, true_or, or_true, true_and]
    repeat' (first | exact True.intro | (refine ⟨fun hb => ?_, fun hb => ?_⟩ <;> first | (exfalso; omega; done) | exact absurd True.intro hb | ((conv => whnf); try simp only [gO, gWe, ne_eq, Nat.reduceEqDiff, not_false_eq_true, true_or, or_true, true_and])) | (refine ⟨by omega, ?_⟩; (conv => whnf); try simp only [gO, gWe, ne_eq, Nat.reduceEqDiff, not_false_eq_true, true_or, or_true, true_and]) | (refine ⟨fun hb => ?_, ?_⟩ <;> first | (exfalso; omega; done) | exact absurd True.intro hb | ((conv => whnf); try simp only [gO, gWe, ne_eq, Nat.reduceEqDiff, not_false_eq_true, true_or, or_true, true_and])) | fail)
    all_goals first | exact absurd rfl hb | skip
    refine s_128 (by omega) z1 (fun τ₂ h2 z2 => ?_)
    have f2 : gFr [24, 25, 26, 27, 28, 29, 30, 31, 32, 34, 35] μ τ₂ := fτ.tr ((gFr.mo (l := [31, 32]) h1 (by decide)).tr (gFr.mo (l := [31, 32]) h2 (by decide)))
    have g2 := z2.2.2.2 0 (by omega) (by omega)
    have n2 := z2.2.2.1
    have ge : (τ₂ 3) 0 = (τ₂ 62) 0 := g2.1.2.trans g2.2.2.symm
    (conv => whnf); try simp only [gO, gWe, ne_eq, Nat.reduceEqDiff, not_false_eq_true, true_or, or_true, true_and]
    repeat' (first | exact True.intro | (refine ⟨fun hb => ?_, fun hb => ?_⟩ <;> first | (exfalso; omega; done) | exact absurd True.intro hb | ((conv => whnf); try simp only [gO, gWe, ne_eq, Nat.reduceEqDiff, not_false_eq_true, true_or, or_true, true_and])) | (refine ⟨by omega, ?_⟩; (conv => whnf); try simp only [gO, gWe, ne_eq, Nat.reduceEqDiff, not_false_eq_true, true_or, or_true, true_and]) | (refine ⟨fun hb => ?_, ?_⟩ <;> first | (exfalso; omega; done) | exact absurd True.intro hb | ((conv => whnf); try simp only [gO, gWe, ne_eq, Nat.reduceEqDiff, not_false_eq_true, true_or, or_true, true_and])) | fail)
    refine p_79 (by omega) z2.1.1 (by omega) (by omega) (fun τ₃ h3 A3 l3 => ?_)
    rw [ge, ← h3 62 (by decide)]
    (conv => whnf); try simp only [gO, gWe, ne_eq, Nat.reduceEqDiff, not_false_eq_true, true_or, or_true, true_and]
    repeat' (first | exact True.intro | (refine ⟨fun hb => ?_, fun hb => ?_⟩ <;> first | (exfalso; omega; done) | exact absurd True.intro hb | ((conv => whnf); try simp only [gO, gWe, ne_eq, Nat.reduceEqDiff, not_false_eq_true, true_or, or_true, true_and])) | (refine ⟨by omega, ?_⟩; (conv => whnf); try simp only [gO, gWe, ne_eq, Nat.reduceEqDiff, not_false_eq_true, true_or, or_true, true_and]) | (refine ⟨fun hb => ?_, ?_⟩ <;> first | (exfalso; omega; done) | exact absurd True.intro hb | ((conv => whnf); try simp only [gO, gWe, ne_eq, Nat.reduceEqDiff, not_false_eq_true, true_or, or_true, true_and])) | fail)
    all_goals first | exact absurd rfl hb | skip
    refine p_94n (by omega) l3 ?_
    have k3 : hKp 39 40 τ₃ ρ := hKp_c (fun c hc => by rw [h3 c (by simp only [List.mem_cons, List.not_mem_nil, or_false]; omega), f2 c (by simp only [List.mem_cons, List.not_mem_nil, or_false]; omega)]) hk
    (conv => whnf); try simp only [gO, gWe, ne_eq, Nat.reduceEqDiff, not_false_eq_true, true_or, or_true, true_and]
    repeat' (first | exact True.intro | (refine ⟨fun hb => ?_, fun hb => ?_⟩ <;> first | (exfalso; omega; done) | exact absurd True.intro hb | ((conv => whnf); try simp only [gO, gWe, ne_eq, Nat.reduceEqDiff, not_false_eq_true, true_or, or_true, true_and])) | (refine ⟨by omega, ?_⟩; (conv => whnf); try simp only [gO, gWe, ne_eq, Nat.reduceEqDiff, not_false_eq_true, true_or, or_true, true_and]) | (refine ⟨fun hb => ?_, ?_⟩ <;> first | (exfalso; omega; done) | exact absurd True.intro hb | ((conv => whnf); try simp only [gO, gWe, ne_eq, Nat.reduceEqDiff, not_false_eq_true, true_or, or_true, true_and])) | fail)
    refine p_113_0 (by omega) k3 hWρ.1 (fun l => by have := hWρ.2; omega) (fun _ ω hω hE => ?_)
    rw [nρ]
    have Wω := hEq_A hWρ hE
    have Sω := hEq_S hWρ hE
    (conv => whnf); try simp only [gO, gWe, ne_eq, Nat.reduceEqDiff, not_false_eq_true, true_or, or_true, true_and]
    repeat' (first | exact True.intro | (refine ⟨fun hb => ?_, fun hb => ?_⟩ <;> first | (exfalso; omega; done) | exact absurd True.intro hb | ((conv => whnf); try simp only [gO, gWe, ne_eq, Nat.reduceEqDiff, not_false_eq_true, true_or, or_true, true_and])) | (refine ⟨by omega, ?_⟩; (conv => whnf); try simp only [gO, gWe, ne_eq, Nat.reduceEqDiff, not_false_eq_true, true_or, or_true, true_and]) | (refine ⟨fun hb => ?_, ?_⟩ <;> first | (exfalso; omega; done) | exact absurd True.intro hb | ((conv => whnf); try simp only [gO, gWe, ne_eq, Nat.reduceEqDiff, not_false_eq_true, true_or, or_true, true_and])) | fail)
    refine p_114 (by omega) Wω hRd.rf (fun ω₁ _ => ?_)
    rw [Sω]
    (conv => whnf); try simp only [gO, gWe, ne_eq, Nat.reduceEqDiff, not_false_eq_true, true_or, or_true, true_and]
    repeat' (first | exact True.intro | (refine ⟨fun hb => ?_, fun hb => ?_⟩ <;> first | (exfalso; omega; done) | exact absurd True.intro hb | ((conv => whnf); try simp only [gO, gWe, ne_eq, Nat.reduceEqDiff, not_false_eq_true, true_or, or_true, true_and])) | (refine ⟨by omega, ?_⟩; (conv => whnf); try simp only [gO, gWe, ne_eq, Nat.reduceEqDiff, not_false_eq_true, true_or, or_true, true_and]) | (refine ⟨fun hb => ?_, ?_⟩ <;> first | (exfalso; omega; done) | exact absurd True.intro hb | ((conv => whnf); try simp only [gO, gWe, ne_eq, Nat.reduceEqDiff, not_false_eq_true, true_or, or_true, true_and])) | fail)
  have cb := g_and1 (gShr y 12)
  refine gB_gG [434] 300 ?_
  (conv => whnf); try simp only [gO, gWe, ne_eq, Nat.reduceEqDiff, not_false_eq_true, true_or, or_true, true_and]
  repeat' (first | exact True.intro | (refine ⟨fun hb => ?_, fun hb => ?_⟩ <;> first | (exfalso; omega; done) | exact absurd True.intro hb | ((conv => whnf); try simp only [gO, gWe, ne_eq, Nat.reduceEqDiff, not_false_eq_true, true_or, or_true, true_and])) | (refine ⟨by omega, ?_⟩; (conv => whnf); try simp only [gO, gWe, ne_eq, Nat.reduceEqDiff, not_false_eq_true, true_or, or_true, true_and]) | (refine ⟨fun hb => ?_, ?_⟩ <;> first | (exfalso; omega; done) | exact absurd True.intro hb | ((conv => whnf); try simp only [gO, gWe, ne_eq, Nat.reduceEqDiff, not_false_eq_true, true_or, or_true, true_and])) | fail)
  refine p_114 (by omega) hZ.1 hRd.rf (fun ν hν => ?_)
  rw [hS]
  have zν := hZ.r hν
  rcases cb with cb | cb
  · (conv => whnf); try simp only [gO, gWe, ne_eq, Nat.reduceEqDiff, not_false_eq_true, true_or, or_true, true_and]
    repeat' (first | exact True.intro | (refine ⟨fun hb => ?_, fun hb => ?_⟩ <;> first | (exfalso; omega; done) | exact absurd True.intro hb | ((conv => whnf); try simp only [gO, gWe, ne_eq, Nat.reduceEqDiff, not_false_eq_true, true_or, or_true, true_and])) | (refine ⟨by omega, ?_⟩; (conv => whnf); try simp only [gO, gWe, ne_eq, Nat.reduceEqDiff, not_false_eq_true, true_or, or_true, true_and]) | (refine ⟨fun hb => ?_, ?_⟩ <;> first | (exfalso; omega; done) | exact absurd True.intro hb | ((conv => whnf); try simp only [gO, gWe, ne_eq, Nat.reduceEqDiff, not_false_eq_true, true_or, or_true, true_and])) | fail)
    refine p_96 (by omega) zν.1 zν.2.1 (fun τ hτ hWτ hxτ => ?_)
    have f := tail τ _ ((gFr.mo (l := [31, 32]) hν (by decide)).tr hτ) (zν.f hτ hWτ hxτ) rfl
    clear tail
    (conv => whnf); try simp only [gO, gWe, ne_eq, Nat.reduceEqDiff, not_false_eq_true, true_or, or_true, true_and]
    repeat' (first | exact True.intro | (refine ⟨fun hb => ?_, fun hb => ?_⟩ <;> first | (exfalso; omega; done) | exact absurd True.intro hb | ((conv => whnf); try simp only [gO, gWe, ne_eq, Nat.reduceEqDiff, not_false_eq_true, true_or, or_true, true_and])) | (refine ⟨by omega, ?_⟩; (conv => whnf); try simp only [gO, gWe, ne_eq, Nat.reduceEqDiff, not_false_eq_true, true_or, or_true, true_and]) | (refine ⟨fun hb => ?_, ?_⟩ <;> first | (exfalso; omega; done) | exact absurd True.intro hb | ((conv => whnf); try simp only [gO, gWe, ne_eq, Nat.reduceEqDiff, not_false_eq_true, true_or, or_true, true_and])) | fail)
    exact f
  · (conv => whnf); try simp only [gO, gWe, ne_eq, Nat.reduceEqDiff, not_false_eq_true, true_or, or_true, true_and]
    repeat' (first | exact True.intro | (refine ⟨fun hb => ?_, fun hb => ?_⟩ <;> first | (exfalso; omega; done) | exact absurd True.intro hb | ((conv => whnf); try simp only [gO, gWe, ne_eq, Nat.reduceEqDiff, not_false_eq_true, true_or, or_true, true_and])) | (refine ⟨by omega, ?_⟩; (conv => whnf); try simp only [gO, gWe, ne_eq, Nat.reduceEqDiff, not_false_eq_true, true_or, or_true, true_and]) | (refine ⟨fun hb => ?_, ?_⟩ <;> first | (exfalso; omega; done) | exact absurd True.intro hb | ((conv => whnf); try simp only [gO, gWe, ne_eq, Nat.reduceEqDiff, not_false_eq_true, true_or, or_true, true_and])) | fail)
    refine p_96 (by omega) zν.1 zν.2.1 (fun τ hτ hWτ hxτ => ?_)
    have f := tail τ _ ((gFr.mo (l := [31, 32]) hν (by decide)).tr hτ) (zν.f hτ hWτ hxτ) rfl
    clear tail
    (conv => whnf); try simp only [gO, gWe, ne_eq, Nat.reduceEqDiff, not_false_eq_true, true_or, or_true, true_and]
    repeat' (first | exact True.intro | (refine ⟨fun hb => ?_, fun hb => ?_⟩ <;> first | (exfalso; omega; done) | exact absurd True.intro hb | ((conv => whnf); try simp only [gO, gWe, ne_eq, Nat.reduceEqDiff, not_false_eq_true, true_or, or_true, true_and])) | (refine ⟨by omega, ?_⟩; (conv => whnf); try simp only [gO, gWe, ne_eq, Nat.reduceEqDiff, not_false_eq_true, true_or, or_true, true_and]) | (refine ⟨fun hb => ?_, ?_⟩ <;> first | (exfalso; omega; done) | exact absurd True.intro hb | ((conv => whnf); try simp only [gO, gWe, ne_eq, Nat.reduceEqDiff, not_false_eq_true, true_or, or_true, true_and])) | fail)
    exact f
theorem s_131 (hD : 38 ≤ D) {μ : MU} {Q : GQ} (hZ : iZ sN sX n μ) (h : Q (some (gI (1))) g_SH μ) : gCall g_T g_F sN sX D 131 [gR 0, gR 61, gR 62, gI n] g_SH μ Q := by
  have q := r_131 (sN := sN) (sX := sX) (D := D) (by omega) hZ.1 hZ.lw h
  rw [hZ.2.2.1] at q
  exact q
theorem s_135 (hD : 38 ≤ D) {μ : MU} {Q : GQ} (n0 : 2 ≤ n ∧ n ≤ 9) (hZ : iZ sN sX n μ) (h : ∀ ρ : MU, hRd μ ρ → iZ sN sX n ρ → Q (some (gI (1))) g_SH ρ) : gCall g_T g_F sN sX D 135 [gR 0, gI n] g_SH μ Q := by
  have q := r_135 (sN := sN) (sX := sX) (D := D) (by omega) hZ.1 (by have := hZ.2.2.1; omega) (fun ρ hρ => h ρ hρ (hZ.r hρ))
  rw [hZ.2.2.1] at q
  exact q
theorem law_4 (hD : 40 ≤ D) {μ : MU} {e7 e8 e9 : Int} (n0 : 2 ≤ n ∧ n ≤ 9) (hZ : iZ sN sX n μ) (h9 : xCa μ (μ 25) ≤ e9) : gG g_T g_F (gCall g_T g_F sN sX D) sN sX (g_T 136) (fun v _ _ => v = some (gI 1)) 308 [gN 1, gR 0, gR 61, gR 62, gI y, gI n, gI 1, gI e7, gI e8, gI e9, gN 2, gN 2, gN 2, gN 2, gN 2] [] g_SH μ 599937 7300556 := by
  refine gB_gG [407] 300 ?_
  (conv => whnf); try simp only [gO, gWe, ne_eq, Nat.reduceEqDiff, not_false_eq_true, true_or, or_true, true_and]
  refine p_98 (by omega) hZ.1 hZ.2.1 (fun ν hν hWν hxν le => ?_)
  have zν := hZ.f hν hWν hxν
  have f5 : ∀ (ρ ω : MU) (e11 : Int), iZ sN sX n ρ → gFr [39, 40, 41, 42, 43, 44, 45, 46, 47, 48, 49] ρ ω → hKp 39 40 ω ρ → gG g_T g_F (gCall g_T g_F sN sX D) sN sX (g_T 136) (fun v _ _ => v = some (gI 1)) 407 [gN 1, gR 0, gR 61, gR 62, gI y, gI n, gI 1, gI e7, gI e8, gI e9, gI (xCa ν (ν 25)), gI e11, gN 2, gN 2, gN 2] [] g_SH ω 599937 7300556 := by
    intro ρ ω e11 zρ hω hk
    have st : hSt ρ ω := hω.st (by decide)
    have wω : iW ω := ⟨iA_c st (by rw [hω 0 (by decide)]) (hω 24 (by decide)) (hω 25 (by decide)) (hω 34 (by decide)) zρ.1.1, by rw [hω 0 (by decide)]; exact zρ.1.2⟩
    have xω : iX ω := fun y k y0 y1 k0 k1 => by
      rw [hω 9 (by decide)] at y1
      rw [hω 23 (by decide)] at k0 k1
      rw [hω 34 (by decide), hω 24 (by decide), xWd_c st]
      exact zρ.2.1 y k y0 y1 k0 k1
    exact law_5 hD n0 (zρ.c wω xω (hω 1 (by decide)) (hω 2 (by decide)) (hω 3 (by decide)) (hω 61 (by decide)) (hω 62 (by decide))) hk zρ.1 zρ.2.2.1 (hS2_c st (hω 24 (by decide)) (hω 25 (by decide)) (hω 34 (by decide)))
  (conv => whnf); try simp only [gO, gWe, ne_eq, Nat.reduceEqDiff, not_false_eq_true, true_or, or_true, true_and]
  repeat' (first | exact True.intro | (refine ⟨fun hb => ?_, fun hb => ?_⟩ <;> first | (exfalso; omega; done) | exact absurd True.intro hb | ((conv => whnf); try simp only [gO, gWe, ne_eq, Nat.reduceEqDiff, not_false_eq_true, true_or, or_true, true_and])) | (refine ⟨by omega, ?_⟩; (conv => whnf); try simp only [gO, gWe, ne_eq, Nat.reduceEqDiff, not_false_eq_true, true_or, or_true, true_and]) | (refine ⟨fun hb => ?_, ?_⟩ <;> first | (exfalso; omega; done) | exact absurd True.intro hb | ((conv => whnf); try simp only [gO, gWe, ne_eq, Nat.reduceEqDiff, not_false_eq_true, true_or, or_true, true_and])) | fail)
  all_goals first | (exfalso; omega) | skip
  refine s_128 (by omega) zν (fun ρ hρ zρ => ?_)
  (conv => whnf); try simp only [gO, gWe, ne_eq, Nat.reduceEqDiff, not_false_eq_true, true_or, or_true, true_and]
  repeat' (first | exact True.intro | (refine ⟨fun hb => ?_, fun hb => ?_⟩ <;> first | (exfalso; omega; done) | exact absurd True.intro hb | ((conv => whnf); try simp only [gO, gWe, ne_eq, Nat.reduceEqDiff, not_false_eq_true, true_or, or_true, true_and])) | (refine ⟨by omega, ?_⟩; (conv => whnf); try simp only [gO, gWe, ne_eq, Nat.reduceEqDiff, not_false_eq_true, true_or, or_true, true_and]) | (refine ⟨fun hb => ?_, ?_⟩ <;> first | (exfalso; omega; done) | exact absurd True.intro hb | ((conv => whnf); try simp only [gO, gWe, ne_eq, Nat.reduceEqDiff, not_false_eq_true, true_or, or_true, true_and])) | fail)
  refine p_101 (by omega) zρ.1 zρ.2.1 (fun τ hτ hWτ hxτ aτ => ?_)
  have zτ := zρ.c hWτ hxτ (hτ 1 (by decide)) (hτ 2 (by decide)) (hτ 3 (by decide)) (hτ 61 (by decide)) (hτ 62 (by decide))
  have g5 := fun ρ ω => f5 ρ ω (hMx (xRt τ) (τ 19 2).toNat)
  clear f5
  (conv => whnf); try simp only [gO, gWe, ne_eq, Nat.reduceEqDiff, not_false_eq_true, true_or, or_true, true_and]
  repeat' (first | exact True.intro | (refine ⟨fun hb => ?_, fun hb => ?_⟩ <;> first | (exfalso; omega; done) | exact absurd True.intro hb | ((conv => whnf); try simp only [gO, gWe, ne_eq, Nat.reduceEqDiff, not_false_eq_true, true_or, or_true, true_and])) | (refine ⟨by omega, ?_⟩; (conv => whnf); try simp only [gO, gWe, ne_eq, Nat.reduceEqDiff, not_false_eq_true, true_or, or_true, true_and]) | (refine ⟨fun hb => ?_, ?_⟩ <;> first | (exfalso; omega; done) | exact absurd True.intro hb | ((conv => whnf); try simp only [gO, gWe, ne_eq, Nat.reduceEqDiff, not_false_eq_true, true_or, or_true, true_and])) | fail)
  refine r_103 (by omega) zτ.1 hRd.rf ?_
  (conv => whnf); try simp only [gO, gWe, ne_eq, Nat.reduceEqDiff, not_false_eq_true, true_or, or_true, true_and]
  repeat' (first | exact True.intro | (refine ⟨fun hb => ?_, fun hb => ?_⟩ <;> first | (exfalso; omega; done) | exact absurd True.intro hb | ((conv => whnf); try simp only [gO, gWe, ne_eq, Nat.reduceEqDiff, not_false_eq_true, true_or, or_true, true_and])) | (refine ⟨by omega, ?_⟩; (conv => whnf); try simp only [gO, gWe, ne_eq, Nat.reduceEqDiff, not_false_eq_true, true_or, or_true, true_and]) | (refine ⟨fun hb => ?_, ?_⟩ <;> first | (exfalso; omega; done) | exact absurd True.intro hb | ((conv => whnf); try simp only [gO, gWe, ne_eq, Nat.reduceEqDiff, not_false_eq_true, true_or, or_true, true_and])) | fail)
  all_goals first | exact absurd rfl hb | skip
  refine s_128 (by omega) zτ (fun ρ₁ h1 z1 => ?_)
  (conv => whnf); try simp only [gO, gWe, ne_eq, Nat.reduceEqDiff, not_false_eq_true, true_or, or_true, true_and]
  repeat' (first | exact True.intro | (refine ⟨fun hb => ?_, fun hb => ?_⟩ <;> first | (exfalso; omega; done) | exact absurd True.intro hb | ((conv => whnf); try simp only [gO, gWe, ne_eq, Nat.reduceEqDiff, not_false_eq_true, true_or, or_true, true_and])) | (refine ⟨by omega, ?_⟩; (conv => whnf); try simp only [gO, gWe, ne_eq, Nat.reduceEqDiff, not_false_eq_true, true_or, or_true, true_and]) | (refine ⟨fun hb => ?_, ?_⟩ <;> first | (exfalso; omega; done) | exact absurd True.intro hb | ((conv => whnf); try simp only [gO, gWe, ne_eq, Nat.reduceEqDiff, not_false_eq_true, true_or, or_true, true_and])) | fail)
  refine r_132 (by omega) z1.1 z1.lw (h1.Al aτ) ?_
  (conv => whnf); try simp only [gO, gWe, ne_eq, Nat.reduceEqDiff, not_false_eq_true, true_or, or_true, true_and]
  repeat' (first | exact True.intro | (refine ⟨fun hb => ?_, fun hb => ?_⟩ <;> first | (exfalso; omega; done) | exact absurd True.intro hb | ((conv => whnf); try simp only [gO, gWe, ne_eq, Nat.reduceEqDiff, not_false_eq_true, true_or, or_true, true_and])) | (refine ⟨by omega, ?_⟩; (conv => whnf); try simp only [gO, gWe, ne_eq, Nat.reduceEqDiff, not_false_eq_true, true_or, or_true, true_and]) | (refine ⟨fun hb => ?_, ?_⟩ <;> first | (exfalso; omega; done) | exact absurd True.intro hb | ((conv => whnf); try simp only [gO, gWe, ne_eq, Nat.reduceEqDiff, not_false_eq_true, true_or, or_true, true_and])) | fail)
  refine s_131 (by omega) z1 ?_
  (conv => whnf); try simp only [gO, gWe, ne_eq, Nat.reduceEqDiff, not_false_eq_true, true_or, or_true, true_and]
  repeat' (first | exact True.intro | (refine ⟨fun hb => ?_, fun hb => ?_⟩ <;> first | (exfalso; omega; done) | exact absurd True.intro hb | ((conv => whnf); try simp only [gO, gWe, ne_eq, Nat.reduceEqDiff, not_false_eq_true, true_or, or_true, true_and])) | (refine ⟨by omega, ?_⟩; (conv => whnf); try simp only [gO, gWe, ne_eq, Nat.reduceEqDiff, not_false_eq_true, true_or, or_true, true_and]) | (refine ⟨fun hb => ?_, ?_⟩ <;> first | (exfalso; omega; done) | exact absurd True.intro hb | ((conv => whnf); try simp only [gO, gWe, ne_eq, Nat.reduceEqDiff, not_false_eq_true, true_or, or_true, true_and])) | fail)
  refine p_112_0 (by omega) z1.1.1 (fun ω hω hk => ?_)
  rw [z1.2.2.1]
  have f := g5 ρ₁ ω z1 hω hk
  clear g5
  (conv => whnf); try simp only [gO, gWe, ne_eq, Nat.reduceEqDiff, not_false_eq_true, true_or, or_true, true_and]
  repeat' (first | exact True.intro | (refine ⟨fun hb => ?_, fun hb => ?_⟩ <;> first | (exfalso; omega; done) | exact absurd True.intro hb | ((conv => whnf); try simp only [gO, gWe, ne_eq, Nat.reduceEqDiff, not_false_eq_true, true_or, or_true, true_and])) | (refine ⟨by omega, ?_⟩; (conv => whnf); try simp only [gO, gWe, ne_eq, Nat.reduceEqDiff, not_false_eq_true, true_or, or_true, true_and]) | (refine ⟨fun hb => ?_, ?_⟩ <;> first | (exfalso; omega; done) | exact absurd True.intro hb | ((conv => whnf); try simp only [gO, gWe, ne_eq, Nat.reduceEqDiff, not_false_eq_true, true_or, or_true, true_and])) | fail)
  all_goals first | exact absurd rfl hb | exact f
theorem law_3 (hD : 40 ≤ D) {μ : MU} {e7 e8 : Int} (n0 : 2 ≤ n ∧ n ≤ 9) (y0 : 0 ≤ y ∧ y < 2147483648) (hZ : iZ sN sX n μ) : gG g_T g_F (gCall g_T g_F sN sX D) sN sX (g_T 136) (fun v _ _ => v = some (gI 1)) 204 [gN 1, gR 0, gR 61, gR 62, gI y, gI n, gI 1, gI e7, gI e8, gN 2, gN 2, gN 2, gN 2, gN 2, gN 2] [] g_SH μ 599937 7300556 := by
  have s8 := g_s8 y0
  have r0 := g_rm (a := gShr y 8) (b := 3) s8.1 (by omega) (by omega) (by omega)
  refine gB_gG [308] 300 ?_
  (conv => whnf); try simp only [gO, gWe, ne_eq, Nat.reduceEqDiff, not_false_eq_true, true_or, or_true, true_and]
  repeat' (first | exact True.intro | (refine ⟨fun hb => ?_, fun hb => ?_⟩ <;> first | (exfalso; omega; done) | exact absurd True.intro hb | ((conv => whnf); try simp only [gO, gWe, ne_eq, Nat.reduceEqDiff, not_false_eq_true, true_or, or_true, true_and])) | (refine ⟨by omega, ?_⟩; (conv => whnf); try simp only [gO, gWe, ne_eq, Nat.reduceEqDiff, not_false_eq_true, true_or, or_true, true_and]) | (refine ⟨fun hb => ?_, ?_⟩ <;> first | (exfalso; omega; done) | exact absurd True.intro hb | ((conv => whnf); try simp only [gO, gWe, ne_eq, Nat.reduceEqDiff, not_false_eq_true, true_or, or_true, true_and])) | fail)
  refine s_128 (by omega) hZ (fun ρ hρ zρ => ?_)
  (conv => whnf); try simp only [gO, gWe, ne_eq, Nat.reduceEqDiff, not_false_eq_true, true_or, or_true, true_and]
  repeat' (first | exact True.intro | (refine ⟨fun hb => ?_, fun hb => ?_⟩ <;> first | (exfalso; omega; done) | exact absurd True.intro hb | ((conv => whnf); try simp only [gO, gWe, ne_eq, Nat.reduceEqDiff, not_false_eq_true, true_or, or_true, true_and])) | (refine ⟨by omega, ?_⟩; (conv => whnf); try simp only [gO, gWe, ne_eq, Nat.reduceEqDiff, not_false_eq_true, true_or, or_true, true_and]) | (refine ⟨fun hb => ?_, ?_⟩ <;> first | (exfalso; omega; done) | exact absurd True.intro hb | ((conv => whnf); try simp only [gO, gWe, ne_eq, Nat.reduceEqDiff, not_false_eq_true, true_or, or_true, true_and])) | fail)
  refine s_131 (by omega) zρ ?_
  (conv => whnf); try simp only [gO, gWe, ne_eq, Nat.reduceEqDiff, not_false_eq_true, true_or, or_true, true_and]
  repeat' (first | exact True.intro | (refine ⟨fun hb => ?_, fun hb => ?_⟩ <;> first | (exfalso; omega; done) | exact absurd True.intro hb | ((conv => whnf); try simp only [gO, gWe, ne_eq, Nat.reduceEqDiff, not_false_eq_true, true_or, or_true, true_and])) | (refine ⟨by omega, ?_⟩; (conv => whnf); try simp only [gO, gWe, ne_eq, Nat.reduceEqDiff, not_false_eq_true, true_or, or_true, true_and]) | (refine ⟨fun hb => ?_, ?_⟩ <;> first | (exfalso; omega; done) | exact absurd True.intro hb | ((conv => whnf); try simp only [gO, gWe, ne_eq, Nat.reduceEqDiff, not_false_eq_true, true_or, or_true, true_and])) | fail)
  refine s_135 (by omega) n0 zρ (fun ρ₁ h1 z1 => ?_)
  (conv => whnf); try simp only [gO, gWe, ne_eq, Nat.reduceEqDiff, not_false_eq_true, true_or, or_true, true_and]
  repeat' (first | exact True.intro | (refine ⟨fun hb => ?_, fun hb => ?_⟩ <;> first | (exfalso; omega; done) | exact absurd True.intro hb | ((conv => whnf); try simp only [gO, gWe, ne_eq, Nat.reduceEqDiff, not_false_eq_true, true_or, or_true, true_and])) | (refine ⟨by omega, ?_⟩; (conv => whnf); try simp only [gO, gWe, ne_eq, Nat.reduceEqDiff, not_false_eq_true, true_or, or_true, true_and]) | (refine ⟨fun hb => ?_, ?_⟩ <;> first | (exfalso; omega; done) | exact absurd True.intro hb | ((conv => whnf); try simp only [gO, gWe, ne_eq, Nat.reduceEqDiff, not_false_eq_true, true_or, or_true, true_and])) | fail)
  refine r_94 (by omega) z1.1 hRd.rf (fun ρ₂ h2 => ?_)
  have z2 := z1.r h2
  rw [← h2.Ca]
  (conv => whnf); try simp only [gO, gWe, ne_eq, Nat.reduceEqDiff, not_false_eq_true, true_or, or_true, true_and]
  repeat' (first | exact True.intro | (refine ⟨fun hb => ?_, fun hb => ?_⟩ <;> first | (exfalso; omega; done) | exact absurd True.intro hb | ((conv => whnf); try simp only [gO, gWe, ne_eq, Nat.reduceEqDiff, not_false_eq_true, true_or, or_true, true_and])) | (refine ⟨by omega, ?_⟩; (conv => whnf); try simp only [gO, gWe, ne_eq, Nat.reduceEqDiff, not_false_eq_true, true_or, or_true, true_and]) | (refine ⟨fun hb => ?_, ?_⟩ <;> first | (exfalso; omega; done) | exact absurd True.intro hb | ((conv => whnf); try simp only [gO, gWe, ne_eq, Nat.reduceEqDiff, not_false_eq_true, true_or, or_true, true_and])) | fail)
  refine p_99 (by omega) z2.1 z2.2.1 (by omega) (by omega) (fun ν hν hWν hxν le => ?_)
  have zν := z2.f hν hWν hxν
  have c0 := (xCa_0 hWν.1.1).1
  have f4 : ∀ τ : MU, hRd ν τ → iZ sN sX n τ → gG g_T g_F (gCall g_T g_F sN sX D) sN sX (g_T 136) (fun v _ _ => v = some (gI 1)) 308 [gN 1, gR 0, gR 61, gR 62, gI y, gI n, gI 1, gI e7, gI (xCa ρ₂ (ρ₂ 25)), gI (xCa ν (ν 25)), gN 2, gN 2, gN 2, gN 2, gN 2] [] g_SH τ 599937 7300556 := fun τ hτ zτ => law_4 hD n0 zτ (by rw [hτ.Ca]; exact Int.le_refl _)
  generalize xCa ρ₂ (ρ₂ 25) = bf at *
  (conv => whnf); try simp only [gO, gWe, ne_eq, Nat.reduceEqDiff, not_false_eq_true, true_or, or_true, true_and]
  repeat' (first | exact True.intro | (refine ⟨fun hb => ?_, fun hb => ?_⟩ <;> first | (exfalso; omega; done) | exact absurd True.intro hb | ((conv => whnf); try simp only [gO, gWe, ne_eq, Nat.reduceEqDiff, not_false_eq_true, true_or, or_true, true_and])) | (refine ⟨by omega, ?_⟩; (conv => whnf); try simp only [gO, gWe, ne_eq, Nat.reduceEqDiff, not_false_eq_true, true_or, or_true, true_and]) | (refine ⟨fun hb => ?_, ?_⟩ <;> first | (exfalso; omega; done) | exact absurd True.intro hb | ((conv => whnf); try simp only [gO, gWe, ne_eq, Nat.reduceEqDiff, not_false_eq_true, true_or, or_true, true_and])) | fail)
  all_goals first | (exfalso; omega) | skip
  refine r_94 (by omega) zν.1 hRd.rf (fun ν₁ h3 => ?_)
  have z3 := zν.r h3
  (conv => whnf); try simp only [gO, gWe, ne_eq, Nat.reduceEqDiff, not_false_eq_true, true_or, or_true, true_and]
  repeat' (first | exact True.intro | (refine ⟨fun hb => ?_, fun hb => ?_⟩ <;> first | (exfalso; omega; done) | exact absurd True.intro hb | ((conv => whnf); try simp only [gO, gWe, ne_eq, Nat.reduceEqDiff, not_false_eq_true, true_or, or_true, true_and])) | (refine ⟨by omega, ?_⟩; (conv => whnf); try simp only [gO, gWe, ne_eq, Nat.reduceEqDiff, not_false_eq_true, true_or, or_true, true_and]) | (refine ⟨fun hb => ?_, ?_⟩ <;> first | (exfalso; omega; done) | exact absurd True.intro hb | ((conv => whnf); try simp only [gO, gWe, ne_eq, Nat.reduceEqDiff, not_false_eq_true, true_or, or_true, true_and])) | fail)
  all_goals first | exact absurd rfl hb | skip
  refine s_128 (by omega) z3 (fun ν₂ h4 z4 => ?_)
  have f := f4 ν₂ (h3.tr h4) z4
  clear f4
  (conv => whnf); try simp only [gO, gWe, ne_eq, Nat.reduceEqDiff, not_false_eq_true, true_or, or_true, true_and]
  repeat' (first | exact True.intro | (refine ⟨fun hb => ?_, fun hb => ?_⟩ <;> first | (exfalso; omega; done) | exact absurd True.intro hb | ((conv => whnf); try simp only [gO, gWe, ne_eq, Nat.reduceEqDiff, not_false_eq_true, true_or, or_true, true_and])) | (refine ⟨by omega, ?_⟩; (conv => whnf); try simp only [gO, gWe, ne_eq, Nat.reduceEqDiff, not_false_eq_true, true_or, or_true, true_and]) | (refine ⟨fun hb => ?_, ?_⟩ <;> first | (exfalso; omega; done) | exact absurd True.intro hb | ((conv => whnf); try simp only [gO, gWe, ne_eq, Nat.reduceEqDiff, not_false_eq_true, true_or, or_true, true_and])) | fail)
  exact f
theorem law_2 (hD : 40 ≤ D) {μ : MU} {e8 : Int} (n0 : 2 ≤ n ∧ n ≤ 9) (y0 : 0 ≤ y ∧ y < 2147483648) (hA : iA μ) (l0 : (μ 0 6) = 0) (hn : (μ 1 0) = n) (he : (μ 1 1) ≤ 11) (hr : ∀ j : Int, 0 ≤ j → j < n → ((μ 2) j = xW0 sN sX j ∧ (μ 3) j = xG0 sN sX j) ∧ (μ 61) j = xW0 sN sX j ∧ (μ 62) j = xG0 sN sX j) : gG g_T g_F (gCall g_T g_F sN sX D) sN sX (g_T 136) (fun v _ _ => v = some (gI 1)) 149 [gN 1, gR 0, gR 61, gR 62, gI y, gI n, gI 1, gI (μ 1 1), gI e8, gN 2, gN 2, gN 2, gN 2, gN 2, gN 2] [] g_SH μ 599937 7300556 := by
  have cb := xCl_b sN sX 24
  have f3 : ∀ ω : MU, iA ω → (ω 1 0) = n → (∀ j : Int, 0 ≤ j → j < n → ((ω 2) j = xW0 sN sX j ∧ (ω 3) j = xG0 sN sX j) ∧ (ω 61) j = xW0 sN sX j ∧ (ω 62) j = xG0 sN sX j) → gG g_T g_F (gCall g_T g_F sN sX D) sN sX (g_T 136) (fun v _ _ => v = some (gI 1)) 194 [gN 1, gR 0, gR 61, gR 62, gI y, gI n, gI 1, gI (μ 1 1), gI e8, gN 2, gN 2, gN 2, gN 2, gN 2, gN 2] [] g_SH ω 599937 7300556 := by
    intro ω A1 n1 r1
    have fin : ∀ ν : MU, gFr [0, 19, 20, 21, 22, 23, 24, 25, 28, 34] ω ν → iW ν → iX ν → gG g_T g_F (gCall g_T g_F sN sX D) sN sX (g_T 136) (fun v _ _ => v = some (gI 1)) 204 [gN 1, gR 0, gR 61, gR 62, gI y, gI n, gI 1, gI (μ 1 1), gI e8, gN 2, gN 2, gN 2, gN 2, gN 2, gN 2] [] g_SH ν 599937 7300556 := fun ν hν hW hx => law_3 hD n0 y0 ⟨hW, hx, by rw [hν 1 (by decide)]; exact n1, fun j j0 j1 => by rw [hν 2 (by decide), hν 3 (by decide), hν 61 (by decide), hν 62 (by decide)]; exact r1 j j0 j1⟩
    have G := A1.1.1
    refine gB_gG [204] 300 ?_
    (conv => whnf); try simp only [gO, gWe, ne_eq, Nat.reduceEqDiff, not_false_eq_true, true_or, or_true, true_and]
    refine p_89 (by omega) A1 (fun _ => ?_) (fun ν hν _ hW hx hv => ?_)
    · (conv => whnf); try simp only [gO, gWe, ne_eq, Nat.reduceEqDiff, not_false_eq_true, true_or, or_true, true_and]
      repeat' (first | exact True.intro | (refine ⟨fun hb => ?_, fun hb => ?_⟩ <;> first | (exfalso; omega; done) | exact absurd True.intro hb | ((conv => whnf); try simp only [gO, gWe, ne_eq, Nat.reduceEqDiff, not_false_eq_true, true_or, or_true, true_and])) | (refine ⟨by omega, ?_⟩; (conv => whnf); try simp only [gO, gWe, ne_eq, Nat.reduceEqDiff, not_false_eq_true, true_or, or_true, true_and]) | (refine ⟨fun hb => ?_, ?_⟩ <;> first | (exfalso; omega; done) | exact absurd True.intro hb | ((conv => whnf); try simp only [gO, gWe, ne_eq, Nat.reduceEqDiff, not_false_eq_true, true_or, or_true, true_and])) | fail)
    · have f := fin ν hν hW hx
      have v0 := (hW.1.2.2.2 hW.2).1.1
      have g0 := hW.1.1.1
      clear fin
      (conv => whnf); try simp only [gO, gWe, ne_eq, Nat.reduceEqDiff, not_false_eq_true, true_or, or_true, true_and]
      repeat' (first | exact True.intro | (refine ⟨fun hb => ?_, fun hb => ?_⟩ <;> first | (exfalso; omega; done) | exact absurd True.intro hb | ((conv => whnf); try simp only [gO, gWe, ne_eq, Nat.reduceEqDiff, not_false_eq_true, true_or, or_true, true_and])) | (refine ⟨by omega, ?_⟩; (conv => whnf); try simp only [gO, gWe, ne_eq, Nat.reduceEqDiff, not_false_eq_true, true_or, or_true, true_and]) | (refine ⟨fun hb => ?_, ?_⟩ <;> first | (exfalso; omega; done) | exact absurd True.intro hb | ((conv => whnf); try simp only [gO, gWe, ne_eq, Nat.reduceEqDiff, not_false_eq_true, true_or, or_true, true_and])) | fail)
      exact f
  refine gB_gG [194] 300 ?_
  (conv => whnf); try simp only [gO, gWe, ne_eq, Nat.reduceEqDiff, not_false_eq_true, true_or, or_true, true_and]
  repeat' (first | exact True.intro | (refine ⟨fun hb => ?_, fun hb => ?_⟩ <;> first | (exfalso; omega; done) | exact absurd True.intro hb | ((conv => whnf); try simp only [gO, gWe, ne_eq, Nat.reduceEqDiff, not_false_eq_true, true_or, or_true, true_and])) | (refine ⟨by omega, ?_⟩; (conv => whnf); try simp only [gO, gWe, ne_eq, Nat.reduceEqDiff, not_false_eq_true, true_or, or_true, true_and]) | (refine ⟨fun hb => ?_, ?_⟩ <;> first | (exfalso; omega; done) | exact absurd True.intro hb | ((conv => whnf); try simp only [gO, gWe, ne_eq, Nat.reduceEqDiff, not_false_eq_true, true_or, or_true, true_and])) | fail)
  refine t_81 (by omega) ?_
  (conv => whnf); try simp only [gO, gWe, ne_eq, Nat.reduceEqDiff, not_false_eq_true, true_or, or_true, true_and]
  repeat' (first | exact True.intro | (refine ⟨fun hb => ?_, fun hb => ?_⟩ <;> first | (exfalso; omega; done) | exact absurd True.intro hb | ((conv => whnf); try simp only [gO, gWe, ne_eq, Nat.reduceEqDiff, not_false_eq_true, true_or, or_true, true_and])) | (refine ⟨by omega, ?_⟩; (conv => whnf); try simp only [gO, gWe, ne_eq, Nat.reduceEqDiff, not_false_eq_true, true_or, or_true, true_and]) | (refine ⟨fun hb => ?_, ?_⟩ <;> first | (exfalso; omega; done) | exact absurd True.intro hb | ((conv => whnf); try simp only [gO, gWe, ne_eq, Nat.reduceEqDiff, not_false_eq_true, true_or, or_true, true_and])) | fail)
  all_goals first | exact absurd rfl hb | skip
  refine p_94n (by omega) l0 ?_
  (conv => whnf); try simp only [gO, gWe, ne_eq, Nat.reduceEqDiff, not_false_eq_true, true_or, or_true, true_and]
  repeat' (first | exact True.intro | (refine ⟨fun hb => ?_, fun hb => ?_⟩ <;> first | (exfalso; omega; done) | exact absurd True.intro hb | ((conv => whnf); try simp only [gO, gWe, ne_eq, Nat.reduceEqDiff, not_false_eq_true, true_or, or_true, true_and])) | (refine ⟨by omega, ?_⟩; (conv => whnf); try simp only [gO, gWe, ne_eq, Nat.reduceEqDiff, not_false_eq_true, true_or, or_true, true_and]) | (refine ⟨fun hb => ?_, ?_⟩ <;> first | (exfalso; omega; done) | exact absurd True.intro hb | ((conv => whnf); try simp only [gO, gWe, ne_eq, Nat.reduceEqDiff, not_false_eq_true, true_or, or_true, true_and])) | fail)
  refine r_124 (by omega) (by omega) ?_
  (conv => whnf); try simp only [gO, gWe, ne_eq, Nat.reduceEqDiff, not_false_eq_true, true_or, or_true, true_and]
  repeat' (first | exact True.intro | (refine ⟨fun hb => ?_, fun hb => ?_⟩ <;> first | (exfalso; omega; done) | exact absurd True.intro hb | ((conv => whnf); try simp only [gO, gWe, ne_eq, Nat.reduceEqDiff, not_false_eq_true, true_or, or_true, true_and])) | (refine ⟨by omega, ?_⟩; (conv => whnf); try simp only [gO, gWe, ne_eq, Nat.reduceEqDiff, not_false_eq_true, true_or, or_true, true_and]) | (refine ⟨fun hb => ?_, ?_⟩ <;> first | (exfalso; omega; done) | exact absurd True.intro hb | ((conv => whnf); try simp only [gO, gWe, ne_eq, Nat.reduceEqDiff, not_false_eq_true, true_or, or_true, true_and])) | fail)
  have q := r_134 (D := D) (Q := fun r sh' μ' => ∀ v : Int, r = some (gI v) → True) (sN := sN) (sX := sX) (by omega) hA l0 (by omega) (by omega) cb (fun _ _ _ _ _ => fun _ _ => trivial)
  clear q
  have q : ∀ {Q : GQ}, (∀ ω : MU, gFr [0, 1, 2, 3, 4, 5, 6, 7, 8, 9, 10, 11, 12, 13, 14, 15, 16, 17, 18, 36, 37, 50, 51, 52, 53, 54, 55, 56, 57, 58, 59, 60] μ ω → hGr ω μ → iA ω → (ω 0 6) = 0 → Q (some (gI (1))) g_SH ω) → gCall g_T g_F sN sX D 134 [gR 0, gI n, gI (xCl sN sX 24)] g_SH μ Q := by
    intro Q h
    have q := r_134 (D := D) (sN := sN) (sX := sX) (by omega) hA l0 (by omega) (by omega) cb h
    rw [hn] at q
    exact q
  refine q (fun ω hω hg Aω lω => ?_)
  have f := f3 ω Aω (by rw [hg.1.1]; exact hn) (fun j j0 j1 => by
    have a := hg.2.1 j j0 (by omega)
    rw [a.1, a.2, hω 61 (by decide), hω 62 (by decide)]
    exact hr j j0 j1)
  clear f3 q
  (conv => whnf); try simp only [gO, gWe, ne_eq, Nat.reduceEqDiff, not_false_eq_true, true_or, or_true, true_and]
  repeat' (first | exact True.intro | (refine ⟨fun hb => ?_, fun hb => ?_⟩ <;> first | (exfalso; omega; done) | exact absurd True.intro hb | ((conv => whnf); try simp only [gO, gWe, ne_eq, Nat.reduceEqDiff, not_false_eq_true, true_or, or_true, true_and])) | (refine ⟨by omega, ?_⟩; (conv => whnf); try simp only [gO, gWe, ne_eq, Nat.reduceEqDiff, not_false_eq_true, true_or, or_true, true_and]) | (refine ⟨fun hb => ?_, ?_⟩ <;> first | (exfalso; omega; done) | exact absurd True.intro hb | ((conv => whnf); try simp only [gO, gWe, ne_eq, Nat.reduceEqDiff, not_false_eq_true, true_or, or_true, true_and])) | fail)
  exact f
theorem law_1 (hD : 40 ≤ D) {μ : MU} (n0 : 2 ≤ n ∧ n ≤ 9) (y0 : 0 ≤ y ∧ y < 2147483648) (hN0 : hNd sN sX μ n) (he : (μ 1 1) ≤ 11) : ∀ i : Int, 0 ≤ i → i ≤ n → ∀ ν : MU, gFr [61, 62] μ ν → (∀ j : Int, 0 ≤ j → j < i → (ν 61) j = xW0 sN sX j ∧ (ν 62) j = xG0 sN sX j) → gG g_T g_F (gCall g_T g_F sN sX D) sN sX (g_T 136) (fun v _ _ => v = some (gI 1)) 104 [gN 1, gR 0, gR 61, gR 62, gI y, gI n, gI 1, gI (μ 1 1), gI i, gN 2, gN 2, gN 2, gN 2, gN 2, gN 2] [] g_SH ν 599937 7300556 := by
  refine g_up (fun i i0 i1 ih ν hν hr => ?_) (fun ν hν hr => ?_)
  · have cb := xCl_b sN sX (1 + i)
    have s4 := g_s4 cb
    have w0 := g_rm (a := xCl sN sX (1 + i)) (b := 5) cb.1 cb.2 (by omega) (by omega)
    have f := ih (gW (gW ν 61 i (1 + gRem (xCl sN sX (1 + i)) 5)) 62 i (gRem (gShr (xCl sN sX (1 + i)) 4) 3)) ((hν.W (by decide)).W (by decide)) (fun j j0 j1 => by
      show gW ν 61 i (1 + gRem (xCl sN sX (1 + i)) 5) 61 j = _ ∧ gW (gW ν 61 i (1 + gRem (xCl sN sX (1 + i)) 5)) 62 i (gRem (gShr (xCl sN sX (1 + i)) 4) 3) 62 j = _
      by_cases c : j = i
      · rw [c, gWe, gWe]
        exact ⟨rfl, rfl⟩
      · rw [gWn _ _ _ c, gWn _ _ _ c]
        exact hr j j0 (by omega))
    clear ih
    refine gB_gG [104] 300 ?_
    (conv => whnf); try simp only [gO, gWe, ne_eq, Nat.reduceEqDiff, not_false_eq_true, true_or, or_true, true_and]
    repeat' (first | exact True.intro | (refine ⟨fun hb => ?_, fun hb => ?_⟩ <;> first | (exfalso; omega; done) | exact absurd True.intro hb | ((conv => whnf); try simp only [gO, gWe, ne_eq, Nat.reduceEqDiff, not_false_eq_true, true_or, or_true, true_and])) | (refine ⟨by omega, ?_⟩; (conv => whnf); try simp only [gO, gWe, ne_eq, Nat.reduceEqDiff, not_false_eq_true, true_or, or_true, true_and]) | (refine ⟨fun hb => ?_, ?_⟩ <;> first | (exfalso; omega; done) | exact absurd True.intro hb | ((conv => whnf); try simp only [gO, gWe, ne_eq, Nat.reduceEqDiff, not_false_eq_true, true_or, or_true, true_and])) | fail)
    refine r_124 (by omega) (by omega) ?_
    (conv => whnf); try simp only [gO, gWe, ne_eq, Nat.reduceEqDiff, not_false_eq_true, true_or, or_true, true_and]
    repeat' (first | exact True.intro | (refine ⟨fun hb => ?_, fun hb => ?_⟩ <;> first | (exfalso; omega; done) | exact absurd True.intro hb | ((conv => whnf); try simp only [gO, gWe, ne_eq, Nat.reduceEqDiff, not_false_eq_true, true_or, or_true, true_and])) | (refine ⟨by omega, ?_⟩; (conv => whnf); try simp only [gO, gWe, ne_eq, Nat.reduceEqDiff, not_false_eq_true, true_or, or_true, true_and]) | (refine ⟨fun hb => ?_, ?_⟩ <;> first | (exfalso; omega; done) | exact absurd True.intro hb | ((conv => whnf); try simp only [gO, gWe, ne_eq, Nat.reduceEqDiff, not_false_eq_true, true_or, or_true, true_and])) | fail)
    refine r_124 (by omega) (by omega) ?_
    (conv => whnf); try simp only [gO, gWe, ne_eq, Nat.reduceEqDiff, not_false_eq_true, true_or, or_true, true_and]
    repeat' (first | exact True.intro | (refine ⟨fun hb => ?_, fun hb => ?_⟩ <;> first | (exfalso; omega; done) | exact absurd True.intro hb | ((conv => whnf); try simp only [gO, gWe, ne_eq, Nat.reduceEqDiff, not_false_eq_true, true_or, or_true, true_and])) | (refine ⟨by omega, ?_⟩; (conv => whnf); try simp only [gO, gWe, ne_eq, Nat.reduceEqDiff, not_false_eq_true, true_or, or_true, true_and]) | (refine ⟨fun hb => ?_, ?_⟩ <;> first | (exfalso; omega; done) | exact absurd True.intro hb | ((conv => whnf); try simp only [gO, gWe, ne_eq, Nat.reduceEqDiff, not_false_eq_true, true_or, or_true, true_and])) | fail)
    exact f
  · have st : hSg μ ν := fun c a b => hν c (by simp only [List.mem_cons, List.not_mem_nil, or_false]; omega)
    obtain ⟨A, l, m, q⟩ := hN0
    have A1 : iA ν := iA_0 (iG_g st A.1) (iL_g st A.2.1) (by rw [hν 0 (by decide)]; exact l (by omega))
    have f := law_2 (D := D) (sN := sN) (sX := sX) (y := y) (n := n) (μ := ν) (e8 := n) hD n0 y0 A1 (by rw [hν 0 (by decide)]; exact l (by omega)) (by rw [hν 1 (by decide)]; exact m) (by rw [hν 1 (by decide)]; exact he) (fun j j0 j1 => ⟨by rw [hν 2 (by decide), hν 3 (by decide)]; exact q j j0 j1, hr j j0 j1⟩)
    rw [hν 1 (by decide)] at f
    refine gB_gG [149] 300 ?_
    (conv => whnf); try simp only [gO, gWe, ne_eq, Nat.reduceEqDiff, not_false_eq_true, true_or, or_true, true_and]
    repeat' (first | exact True.intro | (refine ⟨fun hb => ?_, fun hb => ?_⟩ <;> first | (exfalso; omega; done) | exact absurd True.intro hb | ((conv => whnf); try simp only [gO, gWe, ne_eq, Nat.reduceEqDiff, not_false_eq_true, true_or, or_true, true_and])) | (refine ⟨by omega, ?_⟩; (conv => whnf); try simp only [gO, gWe, ne_eq, Nat.reduceEqDiff, not_false_eq_true, true_or, or_true, true_and]) | (refine ⟨fun hb => ?_, ?_⟩ <;> first | (exfalso; omega; done) | exact absurd True.intro hb | ((conv => whnf); try simp only [gO, gWe, ne_eq, Nat.reduceEqDiff, not_false_eq_true, true_or, or_true, true_and])) | fail)
    exact f
theorem law_0 (hD : 40 ≤ D) {ν : MU} (z : gz ν) : gG g_T g_F (gCall g_T g_F sN sX D) sN sX (g_T 136) (fun v _ _ => v = some (gI 1)) 18 [gN 1, gR 0, gR 61, gR 62, gN 2, gN 2, gN 2, gN 2, gN 2, gN 2, gN 2, gN 2, gN 2, gN 2, gN 2] [] g_SH ν 599937 7300556 := by
  have A := gz_A z
  have y0 := xCl_b sN sX 0
  have a0 := g_rm (a := xCl sN sX 0) (b := 8) y0.1 y0.2 (by omega) (by omega)
  have s4 := g_s4 y0
  have m0 := g_rm (a := gShr (xCl sN sX 0) 4) (b := 8) s4.1 (by omega) (by omega) (by omega)
  have f1 := fun (μ : MU) (hN0 : hNd sN sX μ (2 + gRem (xCl sN sX 0) 8)) (he : (μ 1 1) ≤ 11) => law_1 (D := D) (sN := sN) (sX := sX) (y := xCl sN sX 0) (n := 2 + gRem (xCl sN sX 0) 8) hD (by omega) y0 hN0 he 0 (by omega) (by omega) μ gFr.rf (fun j j0 j1 => by omega)
  refine gB_gG [104] 300 ?_
  (conv => whnf); try simp only [gO, gWe, ne_eq, Nat.reduceEqDiff, not_false_eq_true, true_or, or_true, true_and]
  refine r_124 (by omega) (by omega) ?_
  generalize xCl sN sX 0 = y at *
  have zt : (ν 1 0) + xTot ν - (ν 1 1) = 0 := by
    unfold xTot
    rw [z, z]
    rfl
  (conv => whnf); try simp only [gO, gWe, ne_eq, Nat.reduceEqDiff, not_false_eq_true, true_or, or_true, true_and]
  repeat' (first | exact True.intro | (refine ⟨fun hb => ?_, fun hb => ?_⟩ <;> first | (exfalso; omega; done) | exact absurd True.intro hb | ((conv => whnf); try simp only [gO, gWe, ne_eq, Nat.reduceEqDiff, not_false_eq_true, true_or, or_true, true_and])) | (refine ⟨by omega, ?_⟩; (conv => whnf); try simp only [gO, gWe, ne_eq, Nat.reduceEqDiff, not_false_eq_true, true_or, or_true, true_and]) | (refine ⟨fun hb => ?_, ?_⟩ <;> first | (exfalso; omega; done) | exact absurd True.intro hb | ((conv => whnf); try simp only [gO, gWe, ne_eq, Nat.reduceEqDiff, not_false_eq_true, true_or, or_true, true_and])) | fail)
  refine p_89 (by omega) A (fun c => by omega) (fun μ hμ _ hW hx hv => ?_)
  have v0 : (μ 19 2) = 0 := by omega
  have n0 : (μ 1 0) = 0 := by rw [hμ 1 (by decide)]; exact z _ _
  have e0 : (μ 1 1) = 0 := by rw [hμ 1 (by decide)]; exact z _ _
  have lc : (μ 9 1) = 0 := by rw [hμ 9 (by decide)]; exact z _ _
  rw [v0]
  (conv => whnf); try simp only [gO, gWe, ne_eq, Nat.reduceEqDiff, not_false_eq_true, true_or, or_true, true_and]
  repeat' (first | exact True.intro | (refine ⟨fun hb => ?_, fun hb => ?_⟩ <;> first | (exfalso; omega; done) | exact absurd True.intro hb | ((conv => whnf); try simp only [gO, gWe, ne_eq, Nat.reduceEqDiff, not_false_eq_true, true_or, or_true, true_and])) | (refine ⟨by omega, ?_⟩; (conv => whnf); try simp only [gO, gWe, ne_eq, Nat.reduceEqDiff, not_false_eq_true, true_or, or_true, true_and]) | (refine ⟨fun hb => ?_, ?_⟩ <;> first | (exfalso; omega; done) | exact absurd True.intro hb | ((conv => whnf); try simp only [gO, gWe, ne_eq, Nat.reduceEqDiff, not_false_eq_true, true_or, or_true, true_and])) | fail)
  refine t_88 (by omega) ?_
  rw [lc]
  (conv => whnf); try simp only [gO, gWe, ne_eq, Nat.reduceEqDiff, not_false_eq_true, true_or, or_true, true_and]
  repeat' (first | exact True.intro | (refine ⟨fun hb => ?_, fun hb => ?_⟩ <;> first | (exfalso; omega; done) | exact absurd True.intro hb | ((conv => whnf); try simp only [gO, gWe, ne_eq, Nat.reduceEqDiff, not_false_eq_true, true_or, or_true, true_and])) | (refine ⟨by omega, ?_⟩; (conv => whnf); try simp only [gO, gWe, ne_eq, Nat.reduceEqDiff, not_false_eq_true, true_or, or_true, true_and]) | (refine ⟨fun hb => ?_, ?_⟩ <;> first | (exfalso; omega; done) | exact absurd True.intro hb | ((conv => whnf); try simp only [gO, gWe, ne_eq, Nat.reduceEqDiff, not_false_eq_true, true_or, or_true, true_and])) | fail)
  refine r_103 (by omega) hW hRd.rf ?_
  rw [v0]
  rw [show hMx (xRt μ) (0 : Int).toNat = 0 from rfl]
  (conv => whnf); try simp only [gO, gWe, ne_eq, Nat.reduceEqDiff, not_false_eq_true, true_or, or_true, true_and]
  repeat' (first | exact True.intro | (refine ⟨fun hb => ?_, fun hb => ?_⟩ <;> first | (exfalso; omega; done) | exact absurd True.intro hb | ((conv => whnf); try simp only [gO, gWe, ne_eq, Nat.reduceEqDiff, not_false_eq_true, true_or, or_true, true_and])) | (refine ⟨by omega, ?_⟩; (conv => whnf); try simp only [gO, gWe, ne_eq, Nat.reduceEqDiff, not_false_eq_true, true_or, or_true, true_and]) | (refine ⟨fun hb => ?_, ?_⟩ <;> first | (exfalso; omega; done) | exact absurd True.intro hb | ((conv => whnf); try simp only [gO, gWe, ne_eq, Nat.reduceEqDiff, not_false_eq_true, true_or, or_true, true_and])) | fail)
  refine p_78n (by omega) e0 ?_
  (conv => whnf); try simp only [gO, gWe, ne_eq, Nat.reduceEqDiff, not_false_eq_true, true_or, or_true, true_and]
  repeat' (first | exact True.intro | (refine ⟨fun hb => ?_, fun hb => ?_⟩ <;> first | (exfalso; omega; done) | exact absurd True.intro hb | ((conv => whnf); try simp only [gO, gWe, ne_eq, Nat.reduceEqDiff, not_false_eq_true, true_or, or_true, true_and])) | (refine ⟨by omega, ?_⟩; (conv => whnf); try simp only [gO, gWe, ne_eq, Nat.reduceEqDiff, not_false_eq_true, true_or, or_true, true_and]) | (refine ⟨fun hb => ?_, ?_⟩ <;> first | (exfalso; omega; done) | exact absurd True.intro hb | ((conv => whnf); try simp only [gO, gWe, ne_eq, Nat.reduceEqDiff, not_false_eq_true, true_or, or_true, true_and])) | fail)
  refine p_113e (by omega) (by rw [hμ 39 (by decide)]; exact z _ _) ?_
  (conv => whnf); try simp only [gO, gWe, ne_eq, Nat.reduceEqDiff, not_false_eq_true, true_or, or_true, true_and]
  repeat' (first | exact True.intro | (refine ⟨fun hb => ?_, fun hb => ?_⟩ <;> first | (exfalso; omega; done) | exact absurd True.intro hb | ((conv => whnf); try simp only [gO, gWe, ne_eq, Nat.reduceEqDiff, not_false_eq_true, true_or, or_true, true_and])) | (refine ⟨by omega, ?_⟩; (conv => whnf); try simp only [gO, gWe, ne_eq, Nat.reduceEqDiff, not_false_eq_true, true_or, or_true, true_and]) | (refine ⟨fun hb => ?_, ?_⟩ <;> first | (exfalso; omega; done) | exact absurd True.intro hb | ((conv => whnf); try simp only [gO, gWe, ne_eq, Nat.reduceEqDiff, not_false_eq_true, true_or, or_true, true_and])) | fail)
  refine r_125 (by omega) (by omega) (by omega) hW.1 ⟨n0, e0⟩ (fun ω hω hN0 he => ?_)
  have f := f1 ω hN0 he
  clear f1
  (conv => whnf); try simp only [gO, gWe, ne_eq, Nat.reduceEqDiff, not_false_eq_true, true_or, or_true, true_and]
  repeat' (first | exact True.intro | (refine ⟨fun hb => ?_, fun hb => ?_⟩ <;> first | (exfalso; omega; done) | exact absurd True.intro hb | ((conv => whnf); try simp only [gO, gWe, ne_eq, Nat.reduceEqDiff, not_false_eq_true, true_or, or_true, true_and])) | (refine ⟨by omega, ?_⟩; (conv => whnf); try simp only [gO, gWe, ne_eq, Nat.reduceEqDiff, not_false_eq_true, true_or, or_true, true_and]) | (refine ⟨fun hb => ?_, ?_⟩ <;> first | (exfalso; omega; done) | exact absurd True.intro hb | ((conv => whnf); try simp only [gO, gWe, ne_eq, Nat.reduceEqDiff, not_false_eq_true, true_or, or_true, true_and])) | fail)
  exact f
end LW
