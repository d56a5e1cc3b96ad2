variable {sN : Int} {sX : Int → Int}
/-! what is kept comes back -/
/-- the slot whose cells are O and G.. holds the state ρ -/
def hKp (O G : Nat) (ω ρ : MU) : Prop := (ω O 0 = 1 ∧ ω O 1 = (ρ 0 6)) ∧ (ω G 0 = (ρ 1 0) ∧ ω G 1 = (ρ 1 1)) ∧ (∀ i : Int, 0 ≤ i → i < 12 → ω (G + 1) i = (ρ 2) i ∧ ω (G + 2) i = (ρ 3) i) ∧ (∀ e : Int, 0 ≤ e → e < 20 → ω (G + 3) e = (ρ 4) e ∧ ω (G + 4) e = (ρ 5) e ∧ ω (G + 5) e = (ρ 6) e ∧ ω (G + 6) e = (ρ 7) e ∧ ω (G + 7) e = (ρ 8) e) ∧ ∀ k : Int, 0 ≤ k → k < 60 → ω (G + 8) k = (ρ 24) k ∧ ω (G + 9) k = (ρ 34) k
theorem hKp_c {O G : Nat} {ω τ ρ : MU} (h : ∀ c : Nat, (c = O ∨ (G ≤ c ∧ c ≤ G + 9)) → τ c = ω c) (x : hKp O G ω ρ) : hKp O G τ ρ := by
  unfold hKp at *
  rw [h O (Or.inl rfl), h G (by omega), h (G + 1) (by omega), h (G + 2) (by omega), h (G + 3) (by omega), h (G + 4) (by omega), h (G + 5) (by omega), h (G + 6) (by omega), h (G + 7) (by omega), h (G + 8) (by omega), h (G + 9) (by omega)]
  exact x
/-- a state with the same graph, order and coordinates -/
def hEq (ω ρ : MU) : Prop := hGr ω ρ ∧ iL ω ∧ (ω 0 6) = 1 ∧ iN ω ∧ iO ω (ω 24) (ω 25) ∧ (∀ k : Int, 0 ≤ k → k < 60 → (ω 24) k = (ρ 24) k) ∧ ∀ v : Int, 0 ≤ v → v < 60 → (ω 34) v = (ρ 34) v
theorem hEq_A {ω ρ : MU} (hW : iW ρ) (h : hEq ω ρ) : iW ω := by
  have hG := hW.1.1
  have hL := hW.1.2.1
  obtain ⟨hN, hO, hC, hX⟩ := hW.1.2.2.2 hW.2
  have l1 := hW.2
  have G := hG.1
  have L := hL.2.2.2.1
  have V := hN.1
  obtain ⟨hg, wL, wl, wN, wO, d3, d4⟩ := h
  have wG := hGr_G hg hG
  have ly := hLy_x hG hg wL hL
  have vx := hVx hG hg ly hL wN hN
  refine ⟨⟨wG, wL, Or.inr wl, fun _ => ⟨wN, wO, fun y y0 y1 => ?_, fun v v0 v1 => ?_⟩⟩, wl⟩
  · rw [ly.1] at y1
    have st := (iN_st hG hL hN).1 y y0 y1
    intro i j k i0 i1 i2 i3
    rw [vx.2.2 y y0 (by omega)] at i0
    rw [vx.2.2 (y + 1) (by omega) (by omega)] at i3
    have xg : ∀ q : Int, (ρ 23) y ≤ q → q < (ρ 23) (y + 1) → xGr ω ((ω 24) q) = xGr ρ ((ρ 24) q) := fun q q0 q1 => by
      rw [d3 q (by omega) (by omega)]
      have o := (hO.1 y y0 y1 q q0 q1).1
      unfold xGr
      rw [hg.1.1]
      by_cases c : (ρ 24) q < (ρ 1 0)
      · rw [if_pos c, if_pos c]; exact (hg.2.1 _ o.1 c).2
      · rw [if_neg c, if_neg c]
    rw [xg i i0 (by omega), xg j (by omega) (by omega), xg k (by omega) i3]
    exact hC y y0 y1 i j k i0 i1 i2 i3
  · rw [vx.1] at v1
    rw [d4 v v0 (by omega)]; exact hX v v0 v1
theorem hMx_c {f g : Int → Int} : ∀ n : Nat, (∀ i : Int, 0 ≤ i → i < n → f i = g i) → hMx f n = hMx g n := by
  intro n
  induction n with
  | zero => intro _; rfl
  | succ n ih =>
    intro h
    show max (hMx f n) (f n) = max (hMx g n) (g n)
    rw [ih (fun i i0 i1 => h i i0 (by omega)), h n (by omega) (by omega)]
/-- and so with the same digest -/
theorem hEq_S {ω ρ : MU} (hW : iW ρ) (h : hEq ω ρ) : hS2 ω = hS2 ρ := by
  have hG := hW.1.1
  have hL := hW.1.2.1
  obtain ⟨hN, hO, hC, hX⟩ := hW.1.2.2.2 hW.2
  have l1 := hW.2
  have G := hG.1
  have L := hL.2.2.2.1
  have V := hN.1
  obtain ⟨hg, wL, wl, wN, wO, d3, d4⟩ := h
  have wG := hGr_G hg hG
  have ly := hLy_x hG hg wL hL
  have vx := hVx hG hg ly hL wN hN
  have e1 := hg.1.1
  have e2 := hg.1.2
  have e9 := ly.1
  have fbe : ∀ e : Int, 0 ≤ e → e < (ρ 1 1) → (ω 22) e = (ρ 22) e := fun e e0 e1' => by
    rw [wN.2.2.1 e e0 (by omega), hN.2.2.1 e e0 e1', e1]
    congr 1
    exact gSum_c _ (fun i i0 i1 => by have t := ly.2.2 i i0 (by omega); rw [t.2.2.2.1, t.2.2.2.2])
  have on : ∀ e y : Int, 0 ≤ e → e < (ρ 1 1) → xOn ω e y = xOn ρ e y := fun e y e0 e1' => by
    have t := ly.2.2 e e0 e1'
    unfold xOn
    rw [t.2.1, t.2.2.1, t.2.2.2.1, t.2.2.2.2, fbe e e0 e1']
  have sp : ∀ (pl : Int → Int) (e y : Int), 0 ≤ e → e < (ρ 1 1) → xSpot ω pl e y = xSpot ρ pl e y := fun pl e y e0 e1' => by
    have t := ly.2.2 e e0 e1'
    have g := hg.2.2 e e0 e1'
    unfold xSpot
    rw [on e y e0 e1', t.1, t.2.2.2.1, t.2.2.2.2, g.2.2.1, g.2.2.2.1]
  have xe : ∀ (pl : Int → Int) (y e o : Int), 0 ≤ e → e < (ρ 1 1) → 0 ≤ o → o < (ρ 1 1) → xX ω pl y e o = xX ρ pl y e o := fun pl y e o e0 e1' o0 o1 => by
    have t := ly.2.2 e e0 e1'
    have u := ly.2.2 o o0 o1
    unfold xX
    rw [sp pl e y e0 e1', sp pl o y o0 o1, sp pl e (y + 1) e0 e1', sp pl o (y + 1) o0 o1, t.2.2.2.1, t.2.2.2.2, u.2.2.2.1, u.2.2.2.2]
  have ca : xCa ω (ω 25) = xCa ρ (ρ 25) := by
    have hIOρ : iO ω (ω 24) (ρ 25) := hIO hG hL hg ly vx hN hO (fun k k0 k1 => d3 k k0 (by omega))
    rw [xCa_e wG wL wN (fun v v0 v1 => iO_plu wG wL wN hIOρ wO (fun _ _ _ => rfl) v0 v1)]
    unfold xCa xCb
    rw [e9, e2]
    exact gSum_c _ (fun y _ _ => gSum_c _ (fun e e0 e1' => gSum_c _ (fun o o0 o1 => xe _ y e o e0 (by omega) o0 (by omega))))
  have wd : ∀ v : Int, 0 ≤ v → v < (ρ 19 2) → xWd ω v = xWd ρ v := fun v v0 v1 => by
    unfold xWd
    rw [e1]
    by_cases c : v < (ρ 1 0)
    · rw [if_pos c, if_pos c]; exact (hg.2.1 v v0 c).1
    · rw [if_neg c, if_neg c]
  have mx : hMx (xRt ω) (ω 19 2).toNat = hMx (xRt ρ) (ρ 19 2).toNat := by
    rw [vx.1]
    exact hMx_c _ (fun v v0 v1 => by
      unfold xRt
      rw [wd v v0 (by omega), d4 v v0 (by omega)])
  have spr : xSpr ω = xSpr ρ := by
    unfold xSpr
    rw [e2]
    refine gSum_c _ (fun e e0 e1' => ?_)
    have t := ly.2.2 e e0 (by omega)
    have E := iE hG hL e0 (show e < (ρ 1 1) by omega)
    rw [t.2.2.2.1, t.2.2.2.2]
    unfold xSp xSh
    rw [t.2.2.2.1]
    refine gSum_c _ (fun j j0 j1 => ?_)
    rw [on e _ e0 (by omega), on e _ e0 (by omega)]
    have v0 := (xOn_v hG hL hN e0 (show e < (ρ 1 1) by omega) (y := (ρ 14) e + j) (by omega) (by omega)).1
    have v1 := (xOn_v hG hL hN e0 (show e < (ρ 1 1) by omega) (y := (ρ 14) e + j + 1) (by omega) (by omega)).1
    rw [d4 _ v0.1 (by omega), d4 _ v1.1 (by omega)]
  have tot : xTot ω = xTot ρ := by
    unfold xTot
    rw [e2]
    exact gSum_c _ (fun e e0 e1' => by have t := ly.2.2 e e0 (by omega); rw [t.2.2.2.1, t.2.2.2.2])
  have E1 : ∀ (x : Int) (n : Nat), (n : Int) ≤ (ρ 1 1) → hE1 ω x n = hE1 ρ x n := by
    intro x n
    induction n with
    | zero => intro _; rfl
    | succ n ih =>
      intro hn
      have t := ly.2.2 n (by omega) (by omega)
      unfold hE1
      rw [ih (by omega), t.1, t.2.2.2.1, t.2.2.2.2]
  have N1 : ∀ (x : Int) (n : Nat), (n : Int) ≤ (ρ 1 0) → hN1 ω x n = hN1 ρ x n := by
    intro x n
    induction n with
    | zero => intro _; rfl
    | succ n ih =>
      intro hn
      unfold hN1
      rw [ih (by omega), ly.2.1 n (by omega) (by omega)]
  have V1 : ∀ (x : Int) (n : Nat), (n : Int) ≤ (ρ 19 2) → hV1 ω x n = hV1 ρ x n := by
    intro x n
    induction n with
    | zero => intro _; rfl
    | succ n ih =>
      intro hn
      have o := (iO_k hG hL hN hO (k := n) (by omega) (by omega)).1
      unfold hV1
      rw [ih (by omega), d3 n (by omega) (by omega), (vx.2.1 _ o.1 o.2).1, d4 _ o.1 (by omega)]
  have s1 : hS1 ω = hS1 ρ := by
    unfold hS1
    rw [e1, e2, e9, tot, E1 _ _ (by omega), N1 _ _ (by omega)]
  unfold hS2
  rw [s1, ca, mx, spr, vx.1, V1 _ _ (by omega)]
theorem p_114 {D : Nat} (hD : 36 ≤ D) {μ ν : MU} {Q : GQ} (hW0 : iW μ) (hν : hRd μ ν) (k : ∀ ρ : MU, hRd μ ρ → Q (some (gL (hS2 μ))) g_SH ρ) : gCall g_T g_F sN sX D 114 [gR 0] g_SH ν Q := by
  have hW := hν.W hW0
  have hG := hW.1.1
  have hL := hW.1.2.1
  obtain ⟨hN, hO, hC, hX⟩ := hW.1.2.2.2 hW.2
  have l1 := hW.2
  have G := hG.1
  have L := hL.2.2.2.1
  have V := hN.1
  refine t_114 (by omega) hG hL (Or.inr l1) (fun _ => ⟨⟨hG, hL, hN, hO⟩, hX⟩) (fun l0 => by rw [l1] at l0; omega) (fun _ ρ hρ => ?_)
  rw [hS2_c hν.st (hν 24 (by decide)) (hν 25 (by decide)) (hν 34 (by decide))]
  exact k ρ (hν.tr hρ)
theorem p_112n {D : Nat} (hD : 36 ≤ D) {μ : MU} {Q : GQ} {s : Int} (h0 : s ≠ 0) (h1 : s ≠ 1) (h : Q (some (gI (-1))) g_SH μ) : gCall g_T g_F sN sX D 112 [gR 0, gI s] g_SH μ Q := by
  obtain ⟨d, rfl⟩ := gD (show 1 ≤ D by omega)
  refine gC 300 [] rfl ?_
  (conv => whnf); try simp only [gO, gWe, ne_eq, Nat.reduceEqDiff, not_false_eq_true, true_or, or_true, true_and]
  repeat' (first | exact True.intro | (refine ⟨fun hb => ?_, fun hb => ?_⟩ <;> first | (exfalso; omega; done) | exact absurd True.intro hb | ((conv => whnf); try simp only [gO, gWe, ne_eq, Nat.reduceEqDiff, not_false_eq_true, true_or, or_true, true_and])) | (refine ⟨by omega, ?_⟩; (conv => whnf); try simp only [gO, gWe, ne_eq, Nat.reduceEqDiff, not_false_eq_true, true_or, or_true, true_and]) | (refine ⟨fun hb => ?_, ?_⟩ <;> first | (exfalso; omega; done) | exact absurd True.intro hb | ((conv => whnf); try simp only [gO, gWe, ne_eq, Nat.reduceEqDiff, not_false_eq_true, true_or, or_true, true_and])) | fail)
  refine t_123_n (by omega) h0 h1 ?_
  (conv => whnf); try simp only [gO, gWe, ne_eq, Nat.reduceEqDiff, not_false_eq_true, true_or, or_true, true_and]
  repeat' (first | exact True.intro | (refine ⟨fun hb => ?_, fun hb => ?_⟩ <;> first | (exfalso; omega; done) | exact absurd True.intro hb | ((conv => whnf); try simp only [gO, gWe, ne_eq, Nat.reduceEqDiff, not_false_eq_true, true_or, or_true, true_and])) | (refine ⟨by omega, ?_⟩; (conv => whnf); try simp only [gO, gWe, ne_eq, Nat.reduceEqDiff, not_false_eq_true, true_or, or_true, true_and]) | (refine ⟨fun hb => ?_, ?_⟩ <;> first | (exfalso; omega; done) | exact absurd True.intro hb | ((conv => whnf); try simp only [gO, gWe, ne_eq, Nat.reduceEqDiff, not_false_eq_true, true_or, or_true, true_and])) | fail)
  exact h
theorem p_113n {D : Nat} (hD : 36 ≤ D) {μ : MU} {Q : GQ} {s : Int} (h0 : s ≠ 0) (h1 : s ≠ 1) (h : Q (some (gI (-1))) g_SH μ) : gCall g_T g_F sN sX D 113 [gR 0, gI s] g_SH μ Q := by
  obtain ⟨d, rfl⟩ := gD (show 1 ≤ D by omega)
  refine gC 300 [] rfl ?_
  (conv => whnf); try simp only [gO, gWe, ne_eq, Nat.reduceEqDiff, not_false_eq_true, true_or, or_true, true_and]
  repeat' (first | exact True.intro | (refine ⟨fun hb => ?_, fun hb => ?_⟩ <;> first | (exfalso; omega; done) | exact absurd True.intro hb | ((conv => whnf); try simp only [gO, gWe, ne_eq, Nat.reduceEqDiff, not_false_eq_true, true_or, or_true, true_and])) | (refine ⟨by omega, ?_⟩; (conv => whnf); try simp only [gO, gWe, ne_eq, Nat.reduceEqDiff, not_false_eq_true, true_or, or_true, true_and]) | (refine ⟨fun hb => ?_, ?_⟩ <;> first | (exfalso; omega; done) | exact absurd True.intro hb | ((conv => whnf); try simp only [gO, gWe, ne_eq, Nat.reduceEqDiff, not_false_eq_true, true_or, or_true, true_and])) | fail)
  refine t_123_n (by omega) h0 h1 ?_
  (conv => whnf); try simp only [gO, gWe, ne_eq, Nat.reduceEqDiff, not_false_eq_true, true_or, or_true, true_and]
  repeat' (first | exact True.intro | (refine ⟨fun hb => ?_, fun hb => ?_⟩ <;> first | (exfalso; omega; done) | exact absurd True.intro hb | ((conv => whnf); try simp only [gO, gWe, ne_eq, Nat.reduceEqDiff, not_false_eq_true, true_or, or_true, true_and])) | (refine ⟨by omega, ?_⟩; (conv => whnf); try simp only [gO, gWe, ne_eq, Nat.reduceEqDiff, not_false_eq_true, true_or, or_true, true_and]) | (refine ⟨fun hb => ?_, ?_⟩ <;> first | (exfalso; omega; done) | exact absurd True.intro hb | ((conv => whnf); try simp only [gO, gWe, ne_eq, Nat.reduceEqDiff, not_false_eq_true, true_or, or_true, true_and])) | fail)
  exact h
theorem p_113e {D : Nat} (hD : 36 ≤ D) {μ : MU} {Q : GQ} (h0 : μ 39 0 = 0) (h : Q (some (gI (-3))) g_SH μ) : gCall g_T g_F sN sX D 113 [gR 0, gI 0] g_SH μ Q := by
  obtain ⟨d, rfl⟩ := gD (show 1 ≤ D by omega)
  refine gC 300 [] rfl ?_
  (conv => whnf); try simp only [gO, gWe, ne_eq, Nat.reduceEqDiff, not_false_eq_true, true_or, or_true, true_and]
  repeat' (first | exact True.intro | (refine ⟨fun hb => ?_, fun hb => ?_⟩ <;> first | (exfalso; omega; done) | exact absurd True.intro hb | ((conv => whnf); try simp only [gO, gWe, ne_eq, Nat.reduceEqDiff, not_false_eq_true, true_or, or_true, true_and])) | (refine ⟨by omega, ?_⟩; (conv => whnf); try simp only [gO, gWe, ne_eq, Nat.reduceEqDiff, not_false_eq_true, true_or, or_true, true_and]) | (refine ⟨fun hb => ?_, ?_⟩ <;> first | (exfalso; omega; done) | exact absurd True.intro hb | ((conv => whnf); try simp only [gO, gWe, ne_eq, Nat.reduceEqDiff, not_false_eq_true, true_or, or_true, true_and])) | fail)
  refine t_123_0 (by omega) ?_
  (conv => whnf); try simp only [gO, gWe, ne_eq, Nat.reduceEqDiff, not_false_eq_true, true_or, or_true, true_and]
  repeat' (first | exact True.intro | (refine ⟨fun hb => ?_, fun hb => ?_⟩ <;> first | (exfalso; omega; done) | exact absurd True.intro hb | ((conv => whnf); try simp only [gO, gWe, ne_eq, Nat.reduceEqDiff, not_false_eq_true, true_or, or_true, true_and])) | (refine ⟨by omega, ?_⟩; (conv => whnf); try simp only [gO, gWe, ne_eq, Nat.reduceEqDiff, not_false_eq_true, true_or, or_true, true_and]) | (refine ⟨fun hb => ?_, ?_⟩ <;> first | (exfalso; omega; done) | exact absurd True.intro hb | ((conv => whnf); try simp only [gO, gWe, ne_eq, Nat.reduceEqDiff, not_false_eq_true, true_or, or_true, true_and])) | fail)
  all_goals first | exact h | (exfalso; omega)
theorem p_112_0 {D : Nat} (hD : 36 ≤ D) {μ : MU} {Q : GQ} (hA : iA μ) (h : ∀ ω : MU, gFr [39, 40, 41, 42, 43, 44, 45, 46, 47, 48, 49] μ ω → hKp 39 40 ω μ → Q (some (gI ((μ 1 0)))) g_SH ω) : gCall g_T g_F sN sX D 112 [gR 0, gI 0] g_SH μ Q := by
  have hG := hA.1
  have G := hG.1
  have l01 := hA.2.2.1
  obtain ⟨d, rfl⟩ := gD (show 1 ≤ D by omega)
  refine gC 300 [] rfl ?_
  (conv => whnf); try simp only [gO, gWe, ne_eq, Nat.reduceEqDiff, not_false_eq_true, true_or, or_true, true_and]
  repeat' (first | exact True.intro | (refine ⟨fun hb => ?_, fun hb => ?_⟩ <;> first | (exfalso; omega; done) | exact absurd True.intro hb | ((conv => whnf); try simp only [gO, gWe, ne_eq, Nat.reduceEqDiff, not_false_eq_true, true_or, or_true, true_and])) | (refine ⟨by omega, ?_⟩; (conv => whnf); try simp only [gO, gWe, ne_eq, Nat.reduceEqDiff, not_false_eq_true, true_or, or_true, true_and]) | (refine ⟨fun hb => ?_, ?_⟩ <;> first | (exfalso; omega; done) | exact absurd True.intro hb | ((conv => whnf); try simp only [gO, gWe, ne_eq, Nat.reduceEqDiff, not_false_eq_true, true_or, or_true, true_and])) | fail)
  refine t_123_0 (by omega) ?_
  (conv => whnf); try simp only [gO, gWe, ne_eq, Nat.reduceEqDiff, not_false_eq_true, true_or, or_true, true_and]
  repeat' (first | exact True.intro | (refine ⟨fun hb => ?_, fun hb => ?_⟩ <;> first | (exfalso; omega; done) | exact absurd True.intro hb | ((conv => whnf); try simp only [gO, gWe, ne_eq, Nat.reduceEqDiff, not_false_eq_true, true_or, or_true, true_and])) | (refine ⟨by omega, ?_⟩; (conv => whnf); try simp only [gO, gWe, ne_eq, Nat.reduceEqDiff, not_false_eq_true, true_or, or_true, true_and]) | (refine ⟨fun hb => ?_, ?_⟩ <;> first | (exfalso; omega; done) | exact absurd True.intro hb | ((conv => whnf); try simp only [gO, gWe, ne_eq, Nat.reduceEqDiff, not_false_eq_true, true_or, or_true, true_and])) | fail)
  refine t_18k_40 (by omega) (fun ν hν n1 n2 n3 => ?_)
  have f0 : ν 0 6 = μ 0 6 := by rw [hν 0 (by decide)]
  have f01 : ν 0 6 = 0 ∨ ν 0 6 = 1 := by rw [f0]; exact l01
  have f1 : ν 1 0 = (μ 1 0) := by rw [hν 1 (by decide)]
  have fω : gFr [39, 40, 41, 42, 43, 44, 45, 46, 47, 48, 49] μ (gW (gCp (gCp (gW ν 39 1 (ν 0 6)) 24 0 (48) 0 60) 34 0 (49) 0 60) 39 0 1) := ((((hν.mo (by decide)).W (by decide)).C (by decide)).C (by decide)).W (by decide)
  have w0 : (gW (gCp (gCp (gW ν 39 1 (ν 0 6)) 24 0 (48) 0 60) 34 0 (49) 0 60) 39 0 1) 39 0 = 1 := gWe _ _ _ _
  have w1 : (gW (gCp (gCp (gW ν 39 1 (ν 0 6)) 24 0 (48) 0 60) 34 0 (49) 0 60) 39 0 1) 39 1 = μ 0 6 := by
    rw [gWn _ _ _ (by decide), gCp_n (by decide), gCp_n (by decide), gWe]; exact f0
  have wg : ∀ c : Nat, 40 ≤ c → c ≤ 47 → (gW (gCp (gCp (gW ν 39 1 (ν 0 6)) 24 0 (48) 0 60) 34 0 (49) 0 60) 39 0 1) c = ν c := fun c a b => by
    rw [gO (by omega), gCp_n (by omega), gCp_n (by omega), gO (by omega)]
  have ws : ∀ k : Int, 0 ≤ k → k < 60 → (gW (gCp (gCp (gW ν 39 1 (ν 0 6)) 24 0 (48) 0 60) 34 0 (49) 0 60) 39 0 1) (48) k = μ 24 k ∧ (gW (gCp (gCp (gW ν 39 1 (ν 0 6)) 24 0 (48) 0 60) 34 0 (49) 0 60) 39 0 1) (49) k = μ 34 k := fun k k0 k1 => by
    refine ⟨?_, ?_⟩
    · rw [gO (by decide), gCp_n (by decide), gCp_i k0 k1, gO (by decide), hν 24 (by decide)]
    · rw [gO (by decide), gCp_i k0 k1, gCp_n (by decide), gO (by decide), hν 34 (by decide)]
  have f := h (gW (gCp (gCp (gW ν 39 1 (ν 0 6)) 24 0 (48) 0 60) 34 0 (49) 0 60) 39 0 1) fω ⟨⟨w0, w1⟩, by rw [wg 40 (by omega) (by omega)]; exact n1, fun i i0 i1 => by rw [wg (41) (by omega) (by omega), wg (42) (by omega) (by omega)]; exact n2 i i0 i1, fun e e0 e1 => by rw [wg (43) (by omega) (by omega), wg (44) (by omega) (by omega), wg (45) (by omega) (by omega), wg (46) (by omega) (by omega), wg (47) (by omega) (by omega)]; exact n3 e e0 e1, ws⟩
  rw [← f1] at f
  (conv => whnf); try simp only [gO, gWe, ne_eq, Nat.reduceEqDiff, not_false_eq_true, true_or, or_true, true_and]
  repeat' (first | exact True.intro | (refine ⟨fun hb => ?_, fun hb => ?_⟩ <;> first | (exfalso; omega; done) | exact absurd True.intro hb | ((conv => whnf); try simp only [gO, gWe, ne_eq, Nat.reduceEqDiff, not_false_eq_true, true_or, or_true, true_and])) | (refine ⟨by omega, ?_⟩; (conv => whnf); try simp only [gO, gWe, ne_eq, Nat.reduceEqDiff, not_false_eq_true, true_or, or_true, true_and]) | (refine ⟨fun hb => ?_, ?_⟩ <;> first | (exfalso; omega; done) | exact absurd True.intro hb | ((conv => whnf); try simp only [gO, gWe, ne_eq, Nat.reduceEqDiff, not_false_eq_true, true_or, or_true, true_and])) | fail)
  exact f
theorem p_113_0 {D : Nat} (hD : 36 ≤ D) {μ ρ : MU} {Q : GQ} (hk : hKp 39 40 μ ρ) (iAρ : iA ρ) (h0 : (ρ 0 6) = 0 → ∀ ω : MU, gFr [0, 1, 2, 3, 4, 5, 6, 7, 8, 9, 10, 11, 12, 13, 14, 15, 16, 17, 18] μ ω → hGr ω ρ → iA ω → (ω 0 6) = 0 → Q (some (gI ((ρ 1 0)))) g_SH ω) (h1 : (ρ 0 6) = 1 → ∀ ω : MU, gFr [0, 1, 2, 3, 4, 5, 6, 7, 8, 9, 10, 11, 12, 13, 14, 15, 16, 17, 18, 19, 20, 21, 22, 23, 24, 25, 28, 34] μ ω → hEq ω ρ → Q (some (gI ((ρ 1 0)))) g_SH ω) : gCall g_T g_F sN sX D 113 [gR 0, gI 0] g_SH μ Q := by
  obtain ⟨⟨c, g3⟩, ⟨g1, g2⟩, gi, ge, gs⟩ := hk
  have G := iAρ.1.1
  have hGρ := iAρ.1
  have l01 := iAρ.2.2.1
  obtain ⟨d, rfl⟩ := gD (show 1 ≤ D by omega)
  refine gC 300 [] rfl ?_
  (conv => whnf); try simp only [gO, gWe, ne_eq, Nat.reduceEqDiff, not_false_eq_true, true_or, or_true, true_and]
  repeat' (first | exact True.intro | (refine ⟨fun hb => ?_, fun hb => ?_⟩ <;> first | (exfalso; omega; done) | exact absurd True.intro hb | ((conv => whnf); try simp only [gO, gWe, ne_eq, Nat.reduceEqDiff, not_false_eq_true, true_or, or_true, true_and])) | (refine ⟨by omega, ?_⟩; (conv => whnf); try simp only [gO, gWe, ne_eq, Nat.reduceEqDiff, not_false_eq_true, true_or, or_true, true_and]) | (refine ⟨fun hb => ?_, ?_⟩ <;> first | (exfalso; omega; done) | exact absurd True.intro hb | ((conv => whnf); try simp only [gO, gWe, ne_eq, Nat.reduceEqDiff, not_false_eq_true, true_or, or_true, true_and])) | fail)
  refine t_123_0 (by omega) ?_
  (conv => whnf); try simp only [gO, gWe, ne_eq, Nat.reduceEqDiff, not_false_eq_true, true_or, or_true, true_and]
  repeat' (first | exact True.intro | (refine ⟨fun hb => ?_, fun hb => ?_⟩ <;> first | (exfalso; omega; done) | exact absurd True.intro hb | ((conv => whnf); try simp only [gO, gWe, ne_eq, Nat.reduceEqDiff, not_false_eq_true, true_or, or_true, true_and])) | (refine ⟨by omega, ?_⟩; (conv => whnf); try simp only [gO, gWe, ne_eq, Nat.reduceEqDiff, not_false_eq_true, true_or, or_true, true_and]) | (refine ⟨fun hb => ?_, ?_⟩ <;> first | (exfalso; omega; done) | exact absurd True.intro hb | ((conv => whnf); try simp only [gO, gWe, ne_eq, Nat.reduceEqDiff, not_false_eq_true, true_or, or_true, true_and])) | fail)
  refine t_18r_40 (by omega) (fun ν₁ q1 v1 v2 v3 => ?_)
  have gr1 : hGr ν₁ ρ := ⟨⟨v1.1.trans g1, v1.2.trans g2⟩, fun i i0 i1 => ⟨(v2 i i0 (by omega)).1.trans (gi i i0 (by omega)).1, (v2 i i0 (by omega)).2.trans (gi i i0 (by omega)).2⟩, fun e e0 e1 => ⟨(v3 e e0 (by omega)).1.trans (ge e e0 (by omega)).1, (v3 e e0 (by omega)).2.1.trans (ge e e0 (by omega)).2.1, (v3 e e0 (by omega)).2.2.1.trans (ge e e0 (by omega)).2.2.1, (v3 e e0 (by omega)).2.2.2.1.trans (ge e e0 (by omega)).2.2.2.1, (v3 e e0 (by omega)).2.2.2.2.trans (ge e e0 (by omega)).2.2.2.2⟩⟩
  have hG1 := hGr_G gr1 hGρ
  (conv => whnf); try simp only [gO, gWe, ne_eq, Nat.reduceEqDiff, not_false_eq_true, true_or, or_true, true_and]
  repeat' (first | exact True.intro | (refine ⟨fun hb => ?_, fun hb => ?_⟩ <;> first | (exfalso; omega; done) | exact absurd True.intro hb | ((conv => whnf); try simp only [gO, gWe, ne_eq, Nat.reduceEqDiff, not_false_eq_true, true_or, or_true, true_and])) | (refine ⟨by omega, ?_⟩; (conv => whnf); try simp only [gO, gWe, ne_eq, Nat.reduceEqDiff, not_false_eq_true, true_or, or_true, true_and]) | (refine ⟨fun hb => ?_, ?_⟩ <;> first | (exfalso; omega; done) | exact absurd True.intro hb | ((conv => whnf); try simp only [gO, gWe, ne_eq, Nat.reduceEqDiff, not_false_eq_true, true_or, or_true, true_and])) | fail)
  refine t_116 (by omega) hG1 (fun ν₂ q2 hL2 l0 => ?_)
  have f2 : gFr [0, 1, 2, 3, 4, 5, 6, 7, 8, 9, 10, 11, 12, 13, 14, 15, 16, 17, 18] μ ν₂ := (q1.mo (by decide)).tr (q2.mo (by decide))
  have gr2 : hGr ν₂ ρ := hGr_c (fun c a b => q2 c (by simp only [List.mem_cons, List.not_mem_nil, or_false]; omega)) gr1
  have hG2 := hGr_G gr2 hGρ
  have ly2 := hLy_x hGρ gr2 hL2 iAρ.2.1
  have o1 : ν₂ 39 1 = (ρ 0 6) := by rw [f2 39 (by decide)]; exact g3
  have n2 : ν₂ 1 0 = (ρ 1 0) := gr2.1.1
  rcases l01 with l | l
  · rw [l] at o1
    have f := h0 l ν₂ f2 gr2 (iA_0 hG2 hL2 l0) l0
    clear gi ge gs h0 h1
    rw [← n2] at f
    (conv => whnf); try simp only [gO, gWe, ne_eq, Nat.reduceEqDiff, not_false_eq_true, true_or, or_true, true_and]
    repeat' (first | exact True.intro | (refine ⟨fun hb => ?_, fun hb => ?_⟩ <;> first | (exfalso; omega; done) | exact absurd True.intro hb | ((conv => whnf); try simp only [gO, gWe, ne_eq, Nat.reduceEqDiff, not_false_eq_true, true_or, or_true, true_and])) | (refine ⟨by omega, ?_⟩; (conv => whnf); try simp only [gO, gWe, ne_eq, Nat.reduceEqDiff, not_false_eq_true, true_or, or_true, true_and]) | (refine ⟨fun hb => ?_, ?_⟩ <;> first | (exfalso; omega; done) | exact absurd True.intro hb | ((conv => whnf); try simp only [gO, gWe, ne_eq, Nat.reduceEqDiff, not_false_eq_true, true_or, or_true, true_and])) | fail)
    exact f
  · rw [l] at o1
    obtain ⟨dN, dO, dC, dX⟩ := iAρ.2.2.2 l
    have hc : (ν₂ 1 0) + xTot ν₂ - (ν₂ 1 1) ≤ 60 := by
      have a := hBn_t hG2
      have b : (ρ 19 2) = (ρ 1 0) + hBn ρ (ρ 1 1) := dN.2.1
      have e : hBn ν₂ (ν₂ 1 1) = hBn ρ (ρ 1 1) := by
        unfold hBn
        rw [gr2.1.2]
        exact gSum_c _ (fun e e0 e1 => by
          have t := ly2.2.2 e e0 (by omega)
          show (ν₂ 15) e - (ν₂ 14) e - 1 = (ρ 15) e - (ρ 14) e - 1
          rw [t.2.2.2.1, t.2.2.2.2])
      have V := dN.1
      have q1 := gr2.1.1
      omega
    (conv => whnf); try simp only [gO, gWe, ne_eq, Nat.reduceEqDiff, not_false_eq_true, true_or, or_true, true_and]
    repeat' (first | exact True.intro | (refine ⟨fun hb => ?_, fun hb => ?_⟩ <;> first | (exfalso; omega; done) | exact absurd True.intro hb | ((conv => whnf); try simp only [gO, gWe, ne_eq, Nat.reduceEqDiff, not_false_eq_true, true_or, or_true, true_and])) | (refine ⟨by omega, ?_⟩; (conv => whnf); try simp only [gO, gWe, ne_eq, Nat.reduceEqDiff, not_false_eq_true, true_or, or_true, true_and]) | (refine ⟨fun hb => ?_, ?_⟩ <;> first | (exfalso; omega; done) | exact absurd True.intro hb | ((conv => whnf); try simp only [gO, gWe, ne_eq, Nat.reduceEqDiff, not_false_eq_true, true_or, or_true, true_and])) | fail)
    refine t_35 (by omega) hG2 hL2 hc (fun ν₃ s h3 _ hN3 _ _ => ?_)
    have sg : hSg ν₂ ν₃ := fun c a b => h3 c (by simp only [List.mem_cons, List.not_mem_nil, or_false]; omega)
    have gr3 : hGr ν₃ ρ := hGr_c (fun c a b => sg c a (by omega)) gr2
    have hL3 := iL_g sg hL2
    have hG3 := hGr_G gr3 hGρ
    have ly3 := hLy_x hGρ gr3 hL3 iAρ.2.1
    have vx := hVx hGρ gr3 ly3 iAρ.2.1 hN3 dN
    have f3 : gFr [0, 1, 2, 3, 4, 5, 6, 7, 8, 9, 10, 11, 12, 13, 14, 15, 16, 17, 18, 19, 20, 21, 22, 23, 24, 25, 28] μ ν₃ := (f2.mo (by decide)).tr (h3.mo (by decide))
    have sq3 : ∀ k : Int, 0 ≤ k → k < 60 → ν₃ 48 k = (ρ 24) k := fun k q0 q1 => by rw [f3 48 (by decide)]; exact (gs k q0 q1).1
    have hO3 : iO ν₃ (ν₃ 48) (ρ 25) := hIO hGρ iAρ.2.1 gr3 ly3 vx dN dO (fun k q0 q1 => sq3 k q0 (by have := dN.1; omega))
    (conv => whnf); try simp only [gO, gWe, ne_eq, Nat.reduceEqDiff, not_false_eq_true, true_or, or_true, true_and]
    repeat' (first | exact True.intro | (refine ⟨fun hb => ?_, fun hb => ?_⟩ <;> first | (exfalso; omega; done) | exact absurd True.intro hb | ((conv => whnf); try simp only [gO, gWe, ne_eq, Nat.reduceEqDiff, not_false_eq_true, true_or, or_true, true_and])) | (refine ⟨by omega, ?_⟩; (conv => whnf); try simp only [gO, gWe, ne_eq, Nat.reduceEqDiff, not_false_eq_true, true_or, or_true, true_and]) | (refine ⟨fun hb => ?_, ?_⟩ <;> first | (exfalso; omega; done) | exact absurd True.intro hb | ((conv => whnf); try simp only [gO, gWe, ne_eq, Nat.reduceEqDiff, not_false_eq_true, true_or, or_true, true_and])) | fail)
    refine t_47_48 (by omega) hG3 hL3 hN3 hO3 (fun ν₄ h4 q4 hO4 => ?_)
    have s4 : hSt ν₃ ν₄ := h4.st (by decide)
    (conv => whnf); try simp only [gO, gWe, ne_eq, Nat.reduceEqDiff, not_false_eq_true, true_or, or_true, true_and]
    repeat' (first | exact True.intro | (refine ⟨fun hb => ?_, fun hb => ?_⟩ <;> first | (exfalso; omega; done) | exact absurd True.intro hb | ((conv => whnf); try simp only [gO, gWe, ne_eq, Nat.reduceEqDiff, not_false_eq_true, true_or, or_true, true_and])) | (refine ⟨by omega, ?_⟩; (conv => whnf); try simp only [gO, gWe, ne_eq, Nat.reduceEqDiff, not_false_eq_true, true_or, or_true, true_and]) | (refine ⟨fun hb => ?_, ?_⟩ <;> first | (exfalso; omega; done) | exact absurd True.intro hb | ((conv => whnf); try simp only [gO, gWe, ne_eq, Nat.reduceEqDiff, not_false_eq_true, true_or, or_true, true_and])) | fail)
    have fω : gFr [0, 1, 2, 3, 4, 5, 6, 7, 8, 9, 10, 11, 12, 13, 14, 15, 16, 17, 18, 19, 20, 21, 22, 23, 24, 25, 28, 34] μ (gW (gCp ν₄ 49 0 34 0 60) 0 6 1) := (((f3.mo (by decide)).tr (h4.mo (by decide))).C (by decide)).W (by decide)
    have sω : hSt ν₃ (gW (gCp ν₄ 49 0 34 0 60) 0 6 1) := fun c a b => by rw [gO (by omega), gCp_n (by omega)]; exact s4 c a b
    have wl : (gW (gCp ν₄ 49 0 34 0 60) 0 6 1) 0 6 = 1 := gWe _ _ _ _
    have wo : ∀ c : Nat, c = 24 ∨ c = 25 → (gW (gCp ν₄ 49 0 34 0 60) 0 6 1) c = ν₄ c := fun c hc => by rw [gO (by omega), gCp_n (by omega)]
    have wf : ∀ v : Int, 0 ≤ v → v < 60 → (gW (gCp ν₄ 49 0 34 0 60) 0 6 1) 34 v = (ρ 34) v := fun v q0 q1 => by
      rw [gO (by decide), gCp_i q0 q1, h4 49 (by decide), f3 49 (by decide)]; exact (gs v q0 q1).2
    have rr : (gW (gCp ν₄ 49 0 34 0 60) 0 6 1) 1 0 = (ρ 1 0) := by rw [gO (by decide), gCp_n (by decide), h4 1 (by decide)]; exact gr3.1.1
    have f := h1 l (gW (gCp ν₄ 49 0 34 0 60) 0 6 1) fω ⟨hGr_c (fun c a b => sω c a (by omega)) gr3, iL_c sω hL3, wl, iN_c sω hN3, by
      rw [wo 24 (Or.inl rfl), wo 25 (Or.inr rfl)]
      exact iO_c sω hO4, fun k q0 q1 => by
      rw [wo 24 (Or.inl rfl), q4 k q0 q1]
      exact sq3 k q0 q1, wf⟩
    rw [← rr] at f
    clear h0 h1
    (conv => whnf); try simp only [gO, gWe, ne_eq, Nat.reduceEqDiff, not_false_eq_true, true_or, or_true, true_and]
    repeat' (first | exact True.intro | (refine ⟨fun hb => ?_, fun hb => ?_⟩ <;> first | (exfalso; omega; done) | exact absurd True.intro hb | ((conv => whnf); try simp only [gO, gWe, ne_eq, Nat.reduceEqDiff, not_false_eq_true, true_or, or_true, true_and])) | (refine ⟨by omega, ?_⟩; (conv => whnf); try simp only [gO, gWe, ne_eq, Nat.reduceEqDiff, not_false_eq_true, true_or, or_true, true_and]) | (refine ⟨fun hb => ?_, ?_⟩ <;> first | (exfalso; omega; done) | exact absurd True.intro hb | ((conv => whnf); try simp only [gO, gWe, ne_eq, Nat.reduceEqDiff, not_false_eq_true, true_or, or_true, true_and])) | fail)
    exact f
theorem p_112_1 {D : Nat} (hD : 36 ≤ D) {μ : MU} {Q : GQ} (hA : iA μ) (h : ∀ ω : MU, gFr [50, 51, 52, 53, 54, 55, 56, 57, 58, 59, 60] μ ω → hKp 50 51 ω μ → Q (some (gI ((μ 1 0)))) g_SH ω) : gCall g_T g_F sN sX D 112 [gR 0, gI 1] g_SH μ Q := by
  have hG := hA.1
  have G := hG.1
  have l01 := hA.2.2.1
  obtain ⟨d, rfl⟩ := gD (show 1 ≤ D by omega)
  refine gC 300 [] rfl ?_
  (conv => whnf); try simp only [gO, gWe, ne_eq, Nat.reduceEqDiff, not_false_eq_true, true_or, or_true, true_and]
  repeat' (first | exact True.intro | (refine ⟨fun hb => ?_, fun hb => ?_⟩ <;> first | (exfalso; omega; done) | exact absurd True.intro hb | ((conv => whnf); try simp only [gO, gWe, ne_eq, Nat.reduceEqDiff, not_false_eq_true, true_or, or_true, true_and])) | (refine ⟨by omega, ?_⟩; (conv => whnf); try simp only [gO, gWe, ne_eq, Nat.reduceEqDiff, not_false_eq_true, true_or, or_true, true_and]) | (refine ⟨fun hb => ?_, ?_⟩ <;> first | (exfalso; omega; done) | exact absurd True.intro hb | ((conv => whnf); try simp only [gO, gWe, ne_eq, Nat.reduceEqDiff, not_false_eq_true, true_or, or_true, true_and])) | fail)
  refine t_123_1 (by omega) ?_
  (conv => whnf); try simp only [gO, gWe, ne_eq, Nat.reduceEqDiff, not_false_eq_true, true_or, or_true, true_and]
  repeat' (first | exact True.intro | (refine ⟨fun hb => ?_, fun hb => ?_⟩ <;> first | (exfalso; omega; done) | exact absurd True.intro hb | ((conv => whnf); try simp only [gO, gWe, ne_eq, Nat.reduceEqDiff, not_false_eq_true, true_or, or_true, true_and])) | (refine ⟨by omega, ?_⟩; (conv => whnf); try simp only [gO, gWe, ne_eq, Nat.reduceEqDiff, not_false_eq_true, true_or, or_true, true_and]) | (refine ⟨fun hb => ?_, ?_⟩ <;> first | (exfalso; omega; done) | exact absurd True.intro hb | ((conv => whnf); try simp only [gO, gWe, ne_eq, Nat.reduceEqDiff, not_false_eq_true, true_or, or_true, true_and])) | fail)
  refine t_18k_51 (by omega) (fun ν hν n1 n2 n3 => ?_)
  have f0 : ν 0 6 = μ 0 6 := by rw [hν 0 (by decide)]
  have f01 : ν 0 6 = 0 ∨ ν 0 6 = 1 := by rw [f0]; exact l01
  have f1 : ν 1 0 = (μ 1 0) := by rw [hν 1 (by decide)]
  have fω : gFr [50, 51, 52, 53, 54, 55, 56, 57, 58, 59, 60] μ (gW (gCp (gCp (gW ν 50 1 (ν 0 6)) 24 0 (59) 0 60) 34 0 (60) 0 60) 50 0 1) := ((((hν.mo (by decide)).W (by decide)).C (by decide)).C (by decide)).W (by decide)
  have w0 : (gW (gCp (gCp (gW ν 50 1 (ν 0 6)) 24 0 (59) 0 60) 34 0 (60) 0 60) 50 0 1) 50 0 = 1 := gWe _ _ _ _
  have w1 : (gW (gCp (gCp (gW ν 50 1 (ν 0 6)) 24 0 (59) 0 60) 34 0 (60) 0 60) 50 0 1) 50 1 = μ 0 6 := by
    rw [gWn _ _ _ (by decide), gCp_n (by decide), gCp_n (by decide), gWe]; exact f0
  have wg : ∀ c : Nat, 51 ≤ c → c ≤ 58 → (gW (gCp (gCp (gW ν 50 1 (ν 0 6)) 24 0 (59) 0 60) 34 0 (60) 0 60) 50 0 1) c = ν c := fun c a b => by
    rw [gO (by omega), gCp_n (by omega), gCp_n (by omega), gO (by omega)]
  have ws : ∀ k : Int, 0 ≤ k → k < 60 → (gW (gCp (gCp (gW ν 50 1 (ν 0 6)) 24 0 (59) 0 60) 34 0 (60) 0 60) 50 0 1) (59) k = μ 24 k ∧ (gW (gCp (gCp (gW ν 50 1 (ν 0 6)) 24 0 (59) 0 60) 34 0 (60) 0 60) 50 0 1) (60) k = μ 34 k := fun k k0 k1 => by
    refine ⟨?_, ?_⟩
    · rw [gO (by decide), gCp_n (by decide), gCp_i k0 k1, gO (by decide), hν 24 (by decide)]
    · rw [gO (by decide), gCp_i k0 k1, gCp_n (by decide), gO (by decide), hν 34 (by decide)]
  have f := h (gW (gCp (gCp (gW ν 50 1 (ν 0 6)) 24 0 (59) 0 60) 34 0 (60) 0 60) 50 0 1) fω ⟨⟨w0, w1⟩, by rw [wg 51 (by omega) (by omega)]; exact n1, fun i i0 i1 => by rw [wg (52) (by omega) (by omega), wg (53) (by omega) (by omega)]; exact n2 i i0 i1, fun e e0 e1 => by rw [wg (54) (by omega) (by omega), wg (55) (by omega) (by omega), wg (56) (by omega) (by omega), wg (57) (by omega) (by omega), wg (58) (by omega) (by omega)]; exact n3 e e0 e1, ws⟩
  rw [← f1] at f
  (conv => whnf); try simp only [gO, gWe, ne_eq, Nat.reduceEqDiff, not_false_eq_true, true_or, or_true, true_and]
  repeat' (first | exact True.intro | (refine ⟨fun hb => ?_, fun hb => ?_⟩ <;> first | (exfalso; omega; done) | exact absurd True.intro hb | ((conv => whnf); try simp only [gO, gWe, ne_eq, Nat.reduceEqDiff, not_false_eq_true, true_or, or_true, true_and])) | (refine ⟨by omega, ?_⟩; (conv => whnf); try simp only [gO, gWe, ne_eq, Nat.reduceEqDiff, not_false_eq_true, true_or, or_true, true_and]) | (refine ⟨fun hb => ?_, ?_⟩ <;> first | (exfalso; omega; done) | exact absurd True.intro hb | ((conv => whnf); try simp only [gO, gWe, ne_eq, Nat.reduceEqDiff, not_false_eq_true, true_or, or_true, true_and])) | fail)
  exact f
theorem p_113_1 {D : Nat} (hD : 36 ≤ D) {μ ρ : MU} {Q : GQ} (hk : hKp 50 51 μ ρ) (iAρ : iA ρ) (h0 : (ρ 0 6) = 0 → ∀ ω : MU, gFr [0, 1, 2, 3, 4, 5, 6, 7, 8, 9, 10, 11, 12, 13, 14, 15, 16, 17, 18] μ ω → hGr ω ρ → iA ω → (ω 0 6) = 0 → Q (some (gI ((ρ 1 0)))) g_SH ω) (h1 : (ρ 0 6) = 1 → ∀ ω : MU, gFr [0, 1, 2, 3, 4, 5, 6, 7, 8, 9, 10, 11, 12, 13, 14, 15, 16, 17, 18, 19, 20, 21, 22, 23, 24, 25, 28, 34] μ ω → hEq ω ρ → Q (some (gI ((ρ 1 0)))) g_SH ω) : gCall g_T g_F sN sX D 113 [gR 0, gI 1] g_SH μ Q := by
  obtain ⟨⟨c, g3⟩, ⟨g1, g2⟩, gi, ge, gs⟩ := hk
  have G := iAρ.1.1
  have hGρ := iAρ.1
  have l01 := iAρ.2.2.1
  obtain ⟨d, rfl⟩ := gD (show 1 ≤ D by omega)
  refine gC 300 [] rfl ?_
  (conv => whnf); try simp only [gO, gWe, ne_eq, Nat.reduceEqDiff, not_false_eq_true, true_or, or_true, true_and]
  repeat' (first | exact True.intro | (refine ⟨fun hb => ?_, fun hb => ?_⟩ <;> first | (exfalso; omega; done) | exact absurd True.intro hb | ((conv => whnf); try simp only [gO, gWe, ne_eq, Nat.reduceEqDiff, not_false_eq_true, true_or, or_true, true_and])) | (refine ⟨by omega, ?_⟩; (conv => whnf); try simp only [gO, gWe, ne_eq, Nat.reduceEqDiff, not_false_eq_true, true_or, or_true, true_and]) | (refine ⟨fun hb => ?_, ?_⟩ <;> first | (exfalso; omega; done) | exact absurd True.intro hb | ((conv => whnf); try simp only [gO, gWe, ne_eq, Nat.reduceEqDiff, not_false_eq_true, true_or, or_true, true_and])) | fail)
  refine t_123_1 (by omega) ?_
  (conv => whnf); try simp only [gO, gWe, ne_eq, Nat.reduceEqDiff, not_false_eq_true, true_or, or_true, true_and]
  repeat' (first | exact True.intro | (refine ⟨fun hb => ?_, fun hb => ?_⟩ <;> first | (exfalso; omega; done) | exact absurd True.intro hb | ((conv => whnf); try simp only [gO, gWe, ne_eq, Nat.reduceEqDiff, not_false_eq_true, true_or, or_true, true_and])) | (refine ⟨by omega, ?_⟩; (conv => whnf); try simp only [gO, gWe, ne_eq, Nat.reduceEqDiff, not_false_eq_true, true_or, or_true, true_and]) | (refine ⟨fun hb => ?_, ?_⟩ <;> first | (exfalso; omega; done) | exact absurd True.intro hb | ((conv => whnf); try simp only [gO, gWe, ne_eq, Nat.reduceEqDiff, not_false_eq_true, true_or, or_true, true_and])) | fail)
  refine t_18r_51 (by omega) (fun ν₁ q1 v1 v2 v3 => ?_)
  have gr1 : hGr ν₁ ρ := ⟨⟨v1.1.trans g1, v1.2.trans g2⟩, fun i i0 i1 => ⟨(v2 i i0 (by omega)).1.trans (gi i i0 (by omega)).1, (v2 i i0 (by omega)).2.trans (gi i i0 (by omega)).2⟩, fun e e0 e1 => ⟨(v3 e e0 (by omega)).1.trans (ge e e0 (by omega)).1, (v3 e e0 (by omega)).2.1.trans (ge e e0 (by omega)).2.1, (v3 e e0 (by omega)).2.2.1.trans (ge e e0 (by omega)).2.2.1, (v3 e e0 (by omega)).2.2.2.1.trans (ge e e0 (by omega)).2.2.2.1, (v3 e e0 (by omega)).2.2.2.2.trans (ge e e0 (by omega)).2.2.2.2⟩⟩
  have hG1 := hGr_G gr1 hGρ
  (conv => whnf); try simp only [gO, gWe, ne_eq, Nat.reduceEqDiff, not_false_eq_true, true_or, or_true, true_and]
  repeat' (first | exact True.intro | (refine ⟨fun hb => ?_, fun hb => ?_⟩ <;> first | (exfalso; omega; done) | exact absurd True.intro hb | ((conv => whnf); try simp only [gO, gWe, ne_eq, Nat.reduceEqDiff, not_false_eq_true, true_or, or_true, true_and])) | (refine ⟨by omega, ?_⟩; (conv => whnf); try simp only [gO, gWe, ne_eq, Nat.reduceEqDiff, not_false_eq_true, true_or, or_true, true_and]) | (refine ⟨fun hb => ?_, ?_⟩ <;> first | (exfalso; omega; done) | exact absurd True.intro hb | ((conv => whnf); try simp only [gO, gWe, ne_eq, Nat.reduceEqDiff, not_false_eq_true, true_or, or_true, true_and])) | fail)
  refine t_116 (by omega) hG1 (fun ν₂ q2 hL2 l0 => ?_)
  have f2 : gFr [0, 1, 2, 3, 4, 5, 6, 7, 8, 9, 10, 11, 12, 13, 14, 15, 16, 17, 18] μ ν₂ := (q1.mo (by decide)).tr (q2.mo (by decide))
  have gr2 : hGr ν₂ ρ := hGr_c (fun c a b => q2 c (by simp only [List.mem_cons, List.not_mem_nil, or_false]; omega)) gr1
  have hG2 := hGr_G gr2 hGρ
  have ly2 := hLy_x hGρ gr2 hL2 iAρ.2.1
  have o1 : ν₂ 50 1 = (ρ 0 6) := by rw [f2 50 (by decide)]; exact g3
  have n2 : ν₂ 1 0 = (ρ 1 0) := gr2.1.1
  rcases l01 with l | l
  · rw [l] at o1
    have f := h0 l ν₂ f2 gr2 (iA_0 hG2 hL2 l0) l0
    clear gi ge gs h0 h1
    rw [← n2] at f
    (conv => whnf); try simp only [gO, gWe, ne_eq, Nat.reduceEqDiff, not_false_eq_true, true_or, or_true, true_and]
    repeat' (first | exact True.intro | (refine ⟨fun hb => ?_, fun hb => ?_⟩ <;> first | (exfalso; omega; done) | exact absurd True.intro hb | ((conv => whnf); try simp only [gO, gWe, ne_eq, Nat.reduceEqDiff, not_false_eq_true, true_or, or_true, true_and])) | (refine ⟨by omega, ?_⟩; (conv => whnf); try simp only [gO, gWe, ne_eq, Nat.reduceEqDiff, not_false_eq_true, true_or, or_true, true_and]) | (refine ⟨fun hb => ?_, ?_⟩ <;> first | (exfalso; omega; done) | exact absurd True.intro hb | ((conv => whnf); try simp only [gO, gWe, ne_eq, Nat.reduceEqDiff, not_false_eq_true, true_or, or_true, true_and])) | fail)
    exact f
  · rw [l] at o1
    obtain ⟨dN, dO, dC, dX⟩ := iAρ.2.2.2 l
    have hc : (ν₂ 1 0) + xTot ν₂ - (ν₂ 1 1) ≤ 60 := by
      have a := hBn_t hG2
      have b : (ρ 19 2) = (ρ 1 0) + hBn ρ (ρ 1 1) := dN.2.1
      have e : hBn ν₂ (ν₂ 1 1) = hBn ρ (ρ 1 1) := by
        unfold hBn
        rw [gr2.1.2]
        exact gSum_c _ (fun e e0 e1 => by
          have t := ly2.2.2 e e0 (by omega)
          show (ν₂ 15) e - (ν₂ 14) e - 1 = (ρ 15) e - (ρ 14) e - 1
          rw [t.2.2.2.1, t.2.2.2.2])
      have V := dN.1
      have q1 := gr2.1.1
      omega
    (conv => whnf); try simp only [gO, gWe, ne_eq, Nat.reduceEqDiff, not_false_eq_true, true_or, or_true, true_and]
    repeat' (first | exact True.intro | (refine ⟨fun hb => ?_, fun hb => ?_⟩ <;> first | (exfalso; omega; done) | exact absurd True.intro hb | ((conv => whnf); try simp only [gO, gWe, ne_eq, Nat.reduceEqDiff, not_false_eq_true, true_or, or_true, true_and])) | (refine ⟨by omega, ?_⟩; (conv => whnf); try simp only [gO, gWe, ne_eq, Nat.reduceEqDiff, not_false_eq_true, true_or, or_true, true_and]) | (refine ⟨fun hb => ?_, ?_⟩ <;> first | (exfalso; omega; done) | exact absurd True.intro hb | ((conv => whnf); try simp only [gO, gWe, ne_eq, Nat.reduceEqDiff, not_false_eq_true, true_or, or_true, true_and])) | fail)
    refine t_35 (by omega) hG2 hL2 hc (fun ν₃ s h3 _ hN3 _ _ => ?_)
    have sg : hSg ν₂ ν₃ := fun c a b => h3 c (by simp only [List.mem_cons, List.not_mem_nil, or_false]; omega)
    have gr3 : hGr ν₃ ρ := hGr_c (fun c a b => sg c a (by omega)) gr2
    have hL3 := iL_g sg hL2
    have hG3 := hGr_G gr3 hGρ
    have ly3 := hLy_x hGρ gr3 hL3 iAρ.2.1
    have vx := hVx hGρ gr3 ly3 iAρ.2.1 hN3 dN
    have f3 : gFr [0, 1, 2, 3, 4, 5, 6, 7, 8, 9, 10, 11, 12, 13, 14, 15, 16, 17, 18, 19, 20, 21, 22, 23, 24, 25, 28] μ ν₃ := (f2.mo (by decide)).tr (h3.mo (by decide))
    have sq3 : ∀ k : Int, 0 ≤ k → k < 60 → ν₃ 59 k = (ρ 24) k := fun k q0 q1 => by rw [f3 59 (by decide)]; exact (gs k q0 q1).1
    have hO3 : iO ν₃ (ν₃ 59) (ρ 25) := hIO hGρ iAρ.2.1 gr3 ly3 vx dN dO (fun k q0 q1 => sq3 k q0 (by have := dN.1; omega))
    (conv => whnf); try simp only [gO, gWe, ne_eq, Nat.reduceEqDiff, not_false_eq_true, true_or, or_true, true_and]
    repeat' (first | exact True.intro | (refine ⟨fun hb => ?_, fun hb => ?_⟩ <;> first | (exfalso; omega; done) | exact absurd True.intro hb | ((conv => whnf); try simp only [gO, gWe, ne_eq, Nat.reduceEqDiff, not_false_eq_true, true_or, or_true, true_and])) | (refine ⟨by omega, ?_⟩; (conv => whnf); try simp only [gO, gWe, ne_eq, Nat.reduceEqDiff, not_false_eq_true, true_or, or_true, true_and]) | (refine ⟨fun hb => ?_, ?_⟩ <;> first | (exfalso; omega; done) | exact absurd True.intro hb | ((conv => whnf); try simp only [gO, gWe, ne_eq, Nat.reduceEqDiff, not_false_eq_true, true_or, or_true, true_and])) | fail)
    refine t_47_59 (by omega) hG3 hL3 hN3 hO3 (fun ν₄ h4 q4 hO4 => ?_)
    have s4 : hSt ν₃ ν₄ := h4.st (by decide)
    (conv => whnf); try simp only [gO, gWe, ne_eq, Nat.reduceEqDiff, not_false_eq_true, true_or, or_true, true_and]
    repeat' (first | exact True.intro | (refine ⟨fun hb => ?_, fun hb => ?_⟩ <;> first | (exfalso; omega; done) | exact absurd True.intro hb | ((conv => whnf); try simp only [gO, gWe, ne_eq, Nat.reduceEqDiff, not_false_eq_true, true_or, or_true, true_and])) | (refine ⟨by omega, ?_⟩; (conv => whnf); try simp only [gO, gWe, ne_eq, Nat.reduceEqDiff, not_false_eq_true, true_or, or_true, true_and]) | (refine ⟨fun hb => ?_, ?_⟩ <;> first | (exfalso; omega; done) | exact absurd True.intro hb | ((conv => whnf); try simp only [gO, gWe, ne_eq, Nat.reduceEqDiff, not_false_eq_true, true_or, or_true, true_and])) | fail)
    have fω : gFr [0, 1, 2, 3, 4, 5, 6, 7, 8, 9, 10, 11, 12, 13, 14, 15, 16, 17, 18, 19, 20, 21, 22, 23, 24, 25, 28, 34] μ (gW (gCp ν₄ 60 0 34 0 60) 0 6 1) := (((f3.mo (by decide)).tr (h4.mo (by decide))).C (by decide)).W (by decide)
    have sω : hSt ν₃ (gW (gCp ν₄ 60 0 34 0 60) 0 6 1) := fun c a b => by rw [gO (by omega), gCp_n (by omega)]; exact s4 c a b
    have wl : (gW (gCp ν₄ 60 0 34 0 60) 0 6 1) 0 6 = 1 := gWe _ _ _ _
    have wo : ∀ c : Nat, c = 24 ∨ c = 25 → (gW (gCp ν₄ 60 0 34 0 60) 0 6 1) c = ν₄ c := fun c hc => by rw [gO (by omega), gCp_n (by omega)]
    have wf : ∀ v : Int, 0 ≤ v → v < 60 → (gW (gCp ν₄ 60 0 34 0 60) 0 6 1) 34 v = (ρ 34) v := fun v q0 q1 => by
      rw [gO (by decide), gCp_i q0 q1, h4 60 (by decide), f3 60 (by decide)]; exact (gs v q0 q1).2
    have rr : (gW (gCp ν₄ 60 0 34 0 60) 0 6 1) 1 0 = (ρ 1 0) := by rw [gO (by decide), gCp_n (by decide), h4 1 (by decide)]; exact gr3.1.1
    have f := h1 l (gW (gCp ν₄ 60 0 34 0 60) 0 6 1) fω ⟨hGr_c (fun c a b => sω c a (by omega)) gr3, iL_c sω hL3, wl, iN_c sω hN3, by
      rw [wo 24 (Or.inl rfl), wo 25 (Or.inr rfl)]
      exact iO_c sω hO4, fun k q0 q1 => by
      rw [wo 24 (Or.inl rfl), q4 k q0 q1]
      exact sq3 k q0 q1, wf⟩
    rw [← rr] at f
    clear h0 h1
    (conv => whnf); try simp only [gO, gWe, ne_eq, Nat.reduceEqDiff, not_false_eq_true, true_or, or_true, true_and]
    repeat' (first | exact True.intro | (refine ⟨fun hb => ?_, fun hb => ?_⟩ <;> first | (exfalso; omega; done) | exact absurd True.intro hb | ((conv => whnf); try simp only [gO, gWe, ne_eq, Nat.reduceEqDiff, not_false_eq_true, true_or, or_true, true_and])) | (refine ⟨by omega, ?_⟩; (conv => whnf); try simp only [gO, gWe, ne_eq, Nat.reduceEqDiff, not_false_eq_true, true_or, or_true, true_and]) | (refine ⟨fun hb => ?_, ?_⟩ <;> first | (exfalso; omega; done) | exact absurd True.intro hb | ((conv => whnf); try simp only [gO, gWe, ne_eq, Nat.reduceEqDiff, not_false_eq_true, true_or, or_true, true_and])) | fail)
    exact f
