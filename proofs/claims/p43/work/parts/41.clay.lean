variable {sN : Int} {sX : Int → Int}
/-! the class finds the layers -/
theorem gW_up {μ : MU} {a : Nat} {i v : Int} : gW μ a i v a = gUp (μ a) i v := by
  funext j
  by_cases c : j = i
  · rw [c, gUp_e]; exact gWe _ _ _ _
  · rw [gUp_n c]; exact gWn _ _ _ c
theorem iU_E {μ : MU} (hG : iG μ) (hU : iU μ) : uE (μ 1 0) (μ 1 1) (μ 11) (μ 12) (μ 8) ∧ ∃ q : Int → Int, (∀ i : Int, 0 ≤ i → i < (μ 1 0) → 0 ≤ q i ∧ q i ≤ 11) ∧ ∀ e : Int, 0 ≤ e → e < (μ 1 1) → q ((μ 11) e) < q ((μ 12) e) := by
  have G := hG.1
  refine ⟨fun e e0 e1 => ?_, ?_⟩
  · have g := hG.2.2 e e0 e1
    obtain ⟨-, ⟨u1, u2, u3⟩ | ⟨u1, u2, u3⟩⟩ := hU e e0 e1 <;> rw [u2, u3] <;> omega
  · obtain ⟨q, q1, q2⟩ := dirs_ok (by omega) (by omega) (by omega) (iG_dE hG)
    refine ⟨q, q1, fun e e0 e1 => ?_⟩
    have g := hG.2.2 e e0 e1
    have q3 := q2 e e0 e1
    obtain ⟨t, ⟨u1, u2, u3⟩ | ⟨u1, u2, u3⟩⟩ := hU e e0 e1 <;> rw [u2, u3] <;> rw [← t] at q3 <;> omega
theorem t_29 {D : Nat} (hD : 1 ≤ D) {μ : MU} {Q : GQ} {k T : Int} {t ps : Int → Int} (hG : iG μ) (hE : uE (μ 1 0) (μ 1 1) (μ 11) (μ 12) (μ 8)) (hI : pInv (μ 1 0) (μ 1 1) (μ 11) (μ 12) (μ 8) (μ 17) k 0 T (μ 13) (μ 18) t ps) (k0 : 1 ≤ k) (k1 : k ≤ 12) (T0 : 0 ≤ T) (T1 : T ≤ 20 * (k - 1))
    (hn : ∀ ν : MU, gFr [13, 18] μ ν → (∃ T, pInv (μ 1 0) (μ 1 1) (μ 11) (μ 12) (μ 8) (μ 17) k (μ 1 1) T (ν 13) (ν 18) t ps) → gArc (μ 1 1) (μ 11) (μ 12) (μ 8) (μ 17) (ν 13) → Q (some (gI (-1))) g_SH ν)
    (hp : ∀ (ν : MU) (r T : Int) (t ps : Int → Int), gFr [13, 18] μ ν → pInv (μ 1 0) (μ 1 1) (μ 11) (μ 12) (μ 8) (μ 17) k (μ 1 1) T (ν 13) (ν 18) t ps → 0 ≤ T → T ≤ 20 * k → 0 ≤ r → r < (μ 1 0) → ps r = k → Q (some (gI (r))) g_SH ν) : gCall g_T g_F sN sX D 29 [gR 9] g_SH μ Q := by
  have G := hG.1
  obtain ⟨d, rfl⟩ := gD (show 1 ≤ D by omega)
  refine gC 300 [4] rfl ?_
  (conv => whnf); try simp only [gO, gWe, ne_eq, Nat.reduceEqDiff, not_false_eq_true, true_or, or_true, true_and]
  have key : ∀ c : Int, 0 ≤ c → c ≤ (μ 1 1) → ∀ (ν : MU) (x : GV) (r T : Int) (t' ps' : Int → Int), gFr [13, 18] μ ν → pInv (μ 1 0) (μ 1 1) (μ 11) (μ 12) (μ 8) (μ 17) k c T (ν 13) (ν 18) t' ps' → 0 ≤ T → T ≤ 20 * (k - 1) + c → ((r = -1 ∧ t' = t ∧ ps' = ps ∧ ∀ e : Int, 0 ≤ e → e < c → (ν 13) ((μ 11) e) + (μ 8) e ≤ (ν 13) ((μ 12) e) ∧ (0 < (μ 17) e → (ν 13) ((μ 12) e) ≤ (ν 13) ((μ 11) e) + (μ 8) e)) ∨ (0 ≤ r ∧ r < (μ 1 0) ∧ ps' r = k)) → gG g_T g_F (gCall g_T g_F sN sX d) sN sX (g_T 29) Q 4 [gR 9, gI r, gI c, x] [] g_SH ν 0 0 := by
    refine g_up (fun c c0 c1 ih ν x r T t' ps' hν hI T0 T1 hr => ?_) (fun ν x r T t' ps' hν hI T0 T1 hr => ?_)
    · have f2 : (ν 1 1) = (μ 1 1) := by rw [hν 1 (by decide)]
      have f11 : (ν 11) c = (μ 11) c := by rw [hν 11 (by decide)]
      have f12 : (ν 12) c = (μ 12) c := by rw [hν 12 (by decide)]
      have f8 : (ν 8) c = (μ 8) c := by rw [hν 8 (by decide)]
      have f17 : (ν 17) c = (μ 17) c := by rw [hν 17 (by decide)]
      have ee := hE c c0 c1
      have au := hI.1 _ ee.1.1 ee.1.2
      have al := hI.1 _ ee.2.1.1 ee.2.1.2
      have b1 : 0 ≤ (ν 13) ((μ 11) c) ∧ (ν 13) ((μ 11) c) ≤ 3000 := by omega
      have b2 : 0 ≤ (ν 13) ((μ 12) c) ∧ (ν 13) ((μ 12) c) ≤ 3000 := by omega
      rw [← f11] at b1
      rw [← f12] at b2
      have push : ∀ y x' w : Int, ((y = (μ 12) c ∧ x' = (μ 11) c ∧ w = (μ 8) c) ∨ (y = (μ 11) c ∧ x' = (μ 12) c ∧ w = -(μ 8) c ∧ 0 < (μ 17) c)) → (ν 13) y < (ν 13) x' + w → ∀ (v : Int) (z : GV), v = (ν 13) x' + w → gG g_T g_F (gCall g_T g_F sN sX d) sN sX (g_T 29) Q 4 [gR 9, gI y, gI (c + 1), z] [] g_SH (gW (gW ν 13 y v) 18 y c) 0 0 := by
        intro y x' w hy hl v z hv
        have p := pInv_p hE hI k0 c0 c1 hy hl
        refine ih _ z y (T + 1) (gUp t' y (T + 1)) (gUp ps' y k) ((hν.W (by decide)).W (by decide)) ?_ (by omega) (by omega) (Or.inr ⟨by omega, by omega, gUp_e⟩)
        show pInv _ _ _ _ _ _ _ _ _ (gW ν 13 y v 13) (gW (gW ν 13 y v) 18 y c 18) _ _
        rw [gW_up, gW_up, hv]
        exact p
      have keep : ∀ z : GV, (ν 13) ((μ 11) c) + (μ 8) c ≤ (ν 13) ((μ 12) c) → (0 < (μ 17) c → (ν 13) ((μ 12) c) ≤ (ν 13) ((μ 11) c) + (μ 8) c) → gG g_T g_F (gCall g_T g_F sN sX d) sN sX (g_T 29) Q 4 [gR 9, gI r, gI (c + 1), z] [] g_SH ν 0 0 := by
        intro z z1 z2
        refine ih ν z r T t' ps' hν (pInv_s hI z1 z2) T0 (by omega) ?_
        rcases hr with ⟨r1, r2, r3, r4⟩ | r1
        · refine Or.inl ⟨r1, r2, r3, fun e e0 e1 => ?_⟩
          by_cases hc : e = c
          · rw [hc]; exact ⟨z1, z2⟩
          · exact r4 e e0 (by omega)
        · exact Or.inr r1
      clear hr ih hI
      rw [← f11, ← f12] at push keep
      rw [← f8, ← f17] at push keep
      by_cases h1 : (ν 13) ((ν 12) c) - (ν 13) ((ν 11) c) - (ν 8) c < 0
      · have p := push ((ν 12) c) ((ν 11) c) ((ν 8) c) (Or.inl ⟨rfl, rfl, rfl⟩) (by omega)
        clear push keep
        refine gB_gG [4] 300 ?_
        (conv => whnf); try simp only [gO, gWe, ne_eq, Nat.reduceEqDiff, not_false_eq_true, true_or, or_true, true_and]
        repeat' (first | exact True.intro | (refine ⟨fun hb => ?_, fun hb => ?_⟩ <;> first | (exfalso; omega; done) | exact absurd True.intro hb | ((conv => whnf); try simp only [gO, gWe, ne_eq, Nat.reduceEqDiff, not_false_eq_true, true_or, or_true, true_and])) | (refine ⟨by omega, ?_⟩; (conv => whnf); try simp only [gO, gWe, ne_eq, Nat.reduceEqDiff, not_false_eq_true, true_or, or_true, true_and]) | (refine ⟨fun hb => ?_, ?_⟩ <;> first | (exfalso; omega; done) | exact absurd True.intro hb | ((conv => whnf); try simp only [gO, gWe, ne_eq, Nat.reduceEqDiff, not_false_eq_true, true_or, or_true, true_and])) | fail)
        exact p _ _ (by omega)
      · by_cases h2 : (ν 13) ((ν 12) c) - (ν 13) ((ν 11) c) - (ν 8) c = 0
        · have p := keep (gI ((ν 13) ((ν 12) c) - (ν 13) ((ν 11) c) - (ν 8) c)) (by omega) (fun _ => by omega)
          clear push keep
          refine gB_gG [4] 300 ?_
          (conv => whnf); try simp only [gO, gWe, ne_eq, Nat.reduceEqDiff, not_false_eq_true, true_or, or_true, true_and]
          repeat' (first | exact True.intro | (refine ⟨fun hb => ?_, fun hb => ?_⟩ <;> first | (exfalso; omega; done) | exact absurd True.intro hb | ((conv => whnf); try simp only [gO, gWe, ne_eq, Nat.reduceEqDiff, not_false_eq_true, true_or, or_true, true_and])) | (refine ⟨by omega, ?_⟩; (conv => whnf); try simp only [gO, gWe, ne_eq, Nat.reduceEqDiff, not_false_eq_true, true_or, or_true, true_and]) | (refine ⟨fun hb => ?_, ?_⟩ <;> first | (exfalso; omega; done) | exact absurd True.intro hb | ((conv => whnf); try simp only [gO, gWe, ne_eq, Nat.reduceEqDiff, not_false_eq_true, true_or, or_true, true_and])) | fail)
          exact p
        · by_cases h3 : 0 < (ν 17) c
          · have p := push ((ν 11) c) ((ν 12) c) (-(ν 8) c) (Or.inr ⟨rfl, rfl, rfl, h3⟩) (by omega)
            clear push keep
            refine gB_gG [4] 300 ?_
            (conv => whnf); try simp only [gO, gWe, ne_eq, Nat.reduceEqDiff, not_false_eq_true, true_or, or_true, true_and]
            repeat' (first | exact True.intro | (refine ⟨fun hb => ?_, fun hb => ?_⟩ <;> first | (exfalso; omega; done) | exact absurd True.intro hb | ((conv => whnf); try simp only [gO, gWe, ne_eq, Nat.reduceEqDiff, not_false_eq_true, true_or, or_true, true_and])) | (refine ⟨by omega, ?_⟩; (conv => whnf); try simp only [gO, gWe, ne_eq, Nat.reduceEqDiff, not_false_eq_true, true_or, or_true, true_and]) | (refine ⟨fun hb => ?_, ?_⟩ <;> first | (exfalso; omega; done) | exact absurd True.intro hb | ((conv => whnf); try simp only [gO, gWe, ne_eq, Nat.reduceEqDiff, not_false_eq_true, true_or, or_true, true_and])) | fail)
            exact p _ _ (by omega)
          · have p := keep (gI ((ν 13) ((ν 12) c) - (ν 13) ((ν 11) c) - (ν 8) c)) (by omega) (fun h => absurd h h3)
            clear push keep
            refine gB_gG [4] 300 ?_
            (conv => whnf); try simp only [gO, gWe, ne_eq, Nat.reduceEqDiff, not_false_eq_true, true_or, or_true, true_and]
            repeat' (first | exact True.intro | (refine ⟨fun hb => ?_, fun hb => ?_⟩ <;> first | (exfalso; omega; done) | exact absurd True.intro hb | ((conv => whnf); try simp only [gO, gWe, ne_eq, Nat.reduceEqDiff, not_false_eq_true, true_or, or_true, true_and])) | (refine ⟨by omega, ?_⟩; (conv => whnf); try simp only [gO, gWe, ne_eq, Nat.reduceEqDiff, not_false_eq_true, true_or, or_true, true_and]) | (refine ⟨fun hb => ?_, ?_⟩ <;> first | (exfalso; omega; done) | exact absurd True.intro hb | ((conv => whnf); try simp only [gO, gWe, ne_eq, Nat.reduceEqDiff, not_false_eq_true, true_or, or_true, true_and])) | fail)
            exact p
    · have f2 : (ν 1 1) = (μ 1 1) := by rw [hν 1 (by decide)]
      have nx : Q (some (gI (r))) g_SH ν := by
        rcases hr with ⟨r1, r2, r3, r4⟩ | ⟨r1, r2, r3⟩
        · rw [r1]; exact hn ν hν ⟨T, by rw [← r2, ← r3]; exact hI⟩ r4
        · exact hp ν r T t' ps' hν hI T0 (by omega) r1 r2 r3
      clear hr hI
      refine gB_gG [] 300 ?_
      (conv => whnf); try simp only [gO, gWe, ne_eq, Nat.reduceEqDiff, not_false_eq_true, true_or, or_true, true_and]
      repeat' (first | exact True.intro | (refine ⟨fun hb => ?_, fun hb => ?_⟩ <;> first | (exfalso; omega; done) | exact absurd True.intro hb | ((conv => whnf); try simp only [gO, gWe, ne_eq, Nat.reduceEqDiff, not_false_eq_true, true_or, or_true, true_and])) | (refine ⟨by omega, ?_⟩; (conv => whnf); try simp only [gO, gWe, ne_eq, Nat.reduceEqDiff, not_false_eq_true, true_or, or_true, true_and]) | (refine ⟨fun hb => ?_, ?_⟩ <;> first | (exfalso; omega; done) | exact absurd True.intro hb | ((conv => whnf); try simp only [gO, gWe, ne_eq, Nat.reduceEqDiff, not_false_eq_true, true_or, or_true, true_and])) | fail)
      exact nx
  exact key 0 (by omega) (by omega) μ _ (-1) T t ps gFr.rf hI T0 (by omega) (Or.inl ⟨rfl, rfl, rfl, fun e e0 e1 => by omega⟩)
theorem pInv_0g {n m : Int} {up lo ls fl l pb : Int → Int} (h1 : ∀ i : Int, 0 ≤ i → i < n → l i = 0) (h2 : ∀ i : Int, 0 ≤ i → i < n → pb i = -1) : pInv n m up lo ls fl 1 0 0 l pb (fun _ => 0) (fun _ => 0) := by
  refine ⟨fun i i0 i1 => ⟨by rw [h1 i i0 i1]; omega, ⟨Int.le_refl _, Int.le_refl _⟩, ⟨Int.le_refl _, by show (0 : Int) ≤ 1; omega⟩, fun _ => ⟨h2 i i0 i1, rfl⟩⟩, fun i _ _ h => by have h' : (0 : Int) < 0 := h; omega, fun i j _ _ _ _ _ h => by have h' : (0 : Int) < 0 := h; omega, fun e e0 e1 => ⟨Or.inr ?_, fun _ => Or.inr ?_⟩, fun q hq _ i i0 i1 => by rw [h1 i i0 i1]; exact hq i i0 i1⟩
  · show (if e < 0 then (1 : Int) else 1 - 1) ≤ 0
    rw [if_neg (by omega)]; omega
  · show (if e < 0 then (1 : Int) else 1 - 1) ≤ 0
    rw [if_neg (by omega)]; omega
theorem t_28 {D : Nat} (hD : 2 ≤ D) {μ : MU} {Q : GQ} (hG : iG μ) (hE : uE (μ 1 0) (μ 1 1) (μ 11) (μ 12) (μ 8))
    (hn : ∀ ν : MU, gFr [13, 18] μ ν → gArc (μ 1 1) (μ 11) (μ 12) (μ 8) (μ 17) (ν 13) → (∀ i : Int, 0 ≤ i → i < (μ 1 0) → 0 ≤ (ν 13) i) → pF (μ 1 0) (μ 1 1) (μ 11) (μ 12) (μ 8) (μ 17) (ν 13) → Q (some (gI (-1))) g_SH ν)
    (hp : ∀ (ν : MU) (r T : Int) (t ps : Int → Int), gFr [13, 18] μ ν → pInv (μ 1 0) (μ 1 1) (μ 11) (μ 12) (μ 8) (μ 17) (μ 1 0) (μ 1 1) T (ν 13) (ν 18) t ps → 0 ≤ r → r < (μ 1 0) → ps r = (μ 1 0) → Q (some (gI (r))) g_SH ν) : gCall g_T g_F sN sX D 28 [gR 9] g_SH μ Q := by
  have G := hG.1
  obtain ⟨d, rfl⟩ := gD (show 1 ≤ D by omega)
  refine gC 300 [20] rfl ?_
  (conv => whnf); try simp only [gO, gWe, ne_eq, Nat.reduceEqDiff, not_false_eq_true, true_or, or_true, true_and]
  refine t_226_13 (by omega) (fun ν₁ hν₁ l0 => ?_)
  (conv => whnf); try simp only [gO, gWe, ne_eq, Nat.reduceEqDiff, not_false_eq_true, true_or, or_true, true_and]
  refine t_226_18 (by omega) (fun ν₂ hν₂ p0 => ?_)
  (conv => whnf); try simp only [gO, gWe, ne_eq, Nat.reduceEqDiff, not_false_eq_true, true_or, or_true, true_and]
  have key : ∀ p : Int, 0 ≤ p → p ≤ (μ 1 0) → ∀ (ν : MU) (r T : Int) (t ps : Int → Int), gFr [13, 18] μ ν → pInv (μ 1 0) (μ 1 1) (μ 11) (μ 12) (μ 8) (μ 17) (p + 1) 0 T (ν 13) (ν 18) t ps → 0 ≤ T → T ≤ 20 * p → (0 < p → pInv (μ 1 0) (μ 1 1) (μ 11) (μ 12) (μ 8) (μ 17) p (μ 1 1) T (ν 13) (ν 18) t ps ∧ 0 ≤ r ∧ r < (μ 1 0) ∧ ps r = p) → (p = 0 → r = -1) → gG g_T g_F (gCall g_T g_F sN sX d) sN sX (g_T 28) Q 20 [gR 9, gI r, gI p] [] g_SH ν 0 0 := by
    refine g_up (fun p i0 i1 ih ν r T t ps hν hI T0 T1 hr hr0 => ?_) (fun ν r T t ps hν hI T0 T1 hr hr0 => ?_)
    · have f1 : (ν 1 0) = (μ 1 0) := by rw [hν 1 (by decide)]
      have f2 : (ν 1 1) = (μ 1 1) := by rw [hν 1 (by decide)]
      have f11 : (ν 11) = (μ 11) := hν 11 (by decide)
      have f12 : (ν 12) = (μ 12) := hν 12 (by decide)
      have f8 : (ν 8) = (μ 8) := hν 8 (by decide)
      have f17 : (ν 17) = (μ 17) := hν 17 (by decide)
      have hGν : iG ν := iG_f (hν 1 (by decide)) (hν 2 (by decide)) (hν 3 (by decide)) (hν 4 (by decide)) (hν 5 (by decide)) (hν 6 (by decide)) (hν 7 (by decide)) (hν 8 (by decide)) hG
      clear hr hr0
      refine gB_gG [20] 300 ?_
      (conv => whnf); try simp only [gO, gWe, ne_eq, Nat.reduceEqDiff, not_false_eq_true, true_or, or_true, true_and]
      repeat' (first | exact True.intro | (refine ⟨fun hb => ?_, fun hb => ?_⟩ <;> first | (exfalso; omega; done) | exact absurd True.intro hb | ((conv => whnf); try simp only [gO, gWe, ne_eq, Nat.reduceEqDiff, not_false_eq_true, true_or, or_true, true_and])) | (refine ⟨by omega, ?_⟩; (conv => whnf); try simp only [gO, gWe, ne_eq, Nat.reduceEqDiff, not_false_eq_true, true_or, or_true, true_and]) | (refine ⟨fun hb => ?_, ?_⟩ <;> first | (exfalso; omega; done) | exact absurd True.intro hb | ((conv => whnf); try simp only [gO, gWe, ne_eq, Nat.reduceEqDiff, not_false_eq_true, true_or, or_true, true_and])) | fail)
      refine t_29 (by omega) (k := p + 1) (T := T) (t := t) (ps := ps) hGν (by rw [f1, f2, f11, f12, f8]; exact hE) (by rw [f1, f2, f11, f12, f8, f17]; exact hI) (by omega) (by omega) T0 (by omega) (fun τ hτ hI2 hA => ?_) (fun τ r' T' t' ps' hτ hI2 T0' T1' r0 r1 hr => ?_)
      · rw [f1, f2, f11, f12, f8, f17] at hI2
        rw [f2, f11, f12, f8, f17] at hA
        (conv => whnf); try simp only [gO, gWe, ne_eq, Nat.reduceEqDiff, not_false_eq_true, true_or, or_true, true_and]
        repeat' (first | exact True.intro | (refine ⟨fun hb => ?_, fun hb => ?_⟩ <;> first | (exfalso; omega; done) | exact absurd True.intro hb | ((conv => whnf); try simp only [gO, gWe, ne_eq, Nat.reduceEqDiff, not_false_eq_true, true_or, or_true, true_and])) | (refine ⟨by omega, ?_⟩; (conv => whnf); try simp only [gO, gWe, ne_eq, Nat.reduceEqDiff, not_false_eq_true, true_or, or_true, true_and]) | (refine ⟨fun hb => ?_, ?_⟩ <;> first | (exfalso; omega; done) | exact absurd True.intro hb | ((conv => whnf); try simp only [gO, gWe, ne_eq, Nat.reduceEqDiff, not_false_eq_true, true_or, or_true, true_and])) | fail)
        obtain ⟨T'', hI3⟩ := hI2
        exact hn τ (hν.tr hτ) hA (fun i i0 i1 => (hI3.1 i i0 i1).1.1) hI3.2.2.2.2
      · rw [f1, f2, f11, f12, f8, f17] at hI2
        rw [f1] at r1
        (conv => whnf); try simp only [gO, gWe, ne_eq, Nat.reduceEqDiff, not_false_eq_true, true_or, or_true, true_and]
        repeat' (first | exact True.intro | (refine ⟨fun hb => ?_, fun hb => ?_⟩ <;> first | (exfalso; omega; done) | exact absurd True.intro hb | ((conv => whnf); try simp only [gO, gWe, ne_eq, Nat.reduceEqDiff, not_false_eq_true, true_or, or_true, true_and])) | (refine ⟨by omega, ?_⟩; (conv => whnf); try simp only [gO, gWe, ne_eq, Nat.reduceEqDiff, not_false_eq_true, true_or, or_true, true_and]) | (refine ⟨fun hb => ?_, ?_⟩ <;> first | (exfalso; omega; done) | exact absurd True.intro hb | ((conv => whnf); try simp only [gO, gWe, ne_eq, Nat.reduceEqDiff, not_false_eq_true, true_or, or_true, true_and])) | fail)
        exact ih τ r' T' t' ps' (hν.tr hτ) (pInv_n hI2) T0' T1' (fun _ => ⟨hI2, r0, r1, hr⟩) (fun h => by omega)
    · have f1 : (ν 1 0) = (μ 1 0) := by rw [hν 1 (by decide)]
      have nx : Q (some (gI (r))) g_SH ν := by
        by_cases hc : 0 < (μ 1 0)
        · have h := hr hc
          exact hp ν r T t ps hν h.1 h.2.1 h.2.2.1 h.2.2.2
        · rw [hr0 (by omega)]
          exact hn ν hν (fun e e0 e1 => by have := hE e e0 e1; omega) (fun i i0 i1 => by omega) hI.2.2.2.2
      clear hr hr0 hI
      refine gB_gG [] 300 ?_
      (conv => whnf); try simp only [gO, gWe, ne_eq, Nat.reduceEqDiff, not_false_eq_true, true_or, or_true, true_and]
      repeat' (first | exact True.intro | (refine ⟨fun hb => ?_, fun hb => ?_⟩ <;> first | (exfalso; omega; done) | exact absurd True.intro hb | ((conv => whnf); try simp only [gO, gWe, ne_eq, Nat.reduceEqDiff, not_false_eq_true, true_or, or_true, true_and])) | (refine ⟨by omega, ?_⟩; (conv => whnf); try simp only [gO, gWe, ne_eq, Nat.reduceEqDiff, not_false_eq_true, true_or, or_true, true_and]) | (refine ⟨fun hb => ?_, ?_⟩ <;> first | (exfalso; omega; done) | exact absurd True.intro hb | ((conv => whnf); try simp only [gO, gWe, ne_eq, Nat.reduceEqDiff, not_false_eq_true, true_or, or_true, true_and])) | fail)
      exact nx
  exact key 0 (by omega) (by omega) ν₂ (-1) 0 _ _ ((hν₁.mo (by decide)).tr (hν₂.mo (by decide))) (pInv_0g (fun i i0 i1 => by rw [hν₂ 13 (by decide)]; exact l0 i i0 (by omega)) (fun i i0 i1 => p0 i i0 (by omega))) (by omega) (by omega) (fun h => by omega) (fun _ => rfl)
theorem t_31 {D : Nat} (hD : 1 ≤ D) {μ : MU} {Q : GQ} {i : Int} (hG : iG μ) (hE : uE (μ 1 0) (μ 1 1) (μ 11) (μ 12) (μ 8)) (i0 : 0 ≤ i) (i1 : i < (μ 1 0)) (p0 : 0 ≤ (μ 18) i) (p1 : (μ 18) i < (μ 1 1)) (h : Q (some (gI (pU (μ 11) (μ 12) (μ 18) i))) g_SH μ) : gCall g_T g_F sN sX D 31 [gR 9, gI i] g_SH μ Q := by
  have G := hG.1
  have ee := hE _ p0 p1
  unfold pU at h
  by_cases hc : (μ 12) ((μ 18) i) = i
  · rw [if_pos hc] at h
    obtain ⟨d, rfl⟩ := gD (show 1 ≤ D by omega)
    refine gC 300 [] rfl ?_
    (conv => whnf); try simp only [gO, gWe, ne_eq, Nat.reduceEqDiff, not_false_eq_true, true_or, or_true, true_and]
    repeat' (first | exact True.intro | (refine ⟨fun hb => ?_, fun hb => ?_⟩ <;> first | (exfalso; omega; done) | exact absurd True.intro hb | ((conv => whnf); try simp only [gO, gWe, ne_eq, Nat.reduceEqDiff, not_false_eq_true, true_or, or_true, true_and])) | (refine ⟨by omega, ?_⟩; (conv => whnf); try simp only [gO, gWe, ne_eq, Nat.reduceEqDiff, not_false_eq_true, true_or, or_true, true_and]) | (refine ⟨fun hb => ?_, ?_⟩ <;> first | (exfalso; omega; done) | exact absurd True.intro hb | ((conv => whnf); try simp only [gO, gWe, ne_eq, Nat.reduceEqDiff, not_false_eq_true, true_or, or_true, true_and])) | fail)
    exact h
  · rw [if_neg hc] at h
    obtain ⟨d, rfl⟩ := gD (show 1 ≤ D by omega)
    refine gC 300 [] rfl ?_
    (conv => whnf); try simp only [gO, gWe, ne_eq, Nat.reduceEqDiff, not_false_eq_true, true_or, or_true, true_and]
    repeat' (first | exact True.intro | (refine ⟨fun hb => ?_, fun hb => ?_⟩ <;> first | (exfalso; omega; done) | exact absurd True.intro hb | ((conv => whnf); try simp only [gO, gWe, ne_eq, Nat.reduceEqDiff, not_false_eq_true, true_or, or_true, true_and])) | (refine ⟨by omega, ?_⟩; (conv => whnf); try simp only [gO, gWe, ne_eq, Nat.reduceEqDiff, not_false_eq_true, true_or, or_true, true_and]) | (refine ⟨fun hb => ?_, ?_⟩ <;> first | (exfalso; omega; done) | exact absurd True.intro hb | ((conv => whnf); try simp only [gO, gWe, ne_eq, Nat.reduceEqDiff, not_false_eq_true, true_or, or_true, true_and])) | fail)
    exact h
theorem t_32 {D : Nat} (hD : 2 ≤ D) {μ : MU} {Q : GQ} {a : Int} {p : Nat} (hG : iG μ) (hU : iU μ) (hC : pCyc (μ 1 0) (μ 1 1) (μ 11) (μ 12) (μ 8) (μ 17) (μ 18) a p) (hF : ∀ e : Int, 0 ≤ e → e < (μ 1 1) → 0 ≤ (μ 17) e ∧ (μ 17) e ≤ 660) (h : ∀ A : Int, 1 ≤ A → A ≤ 660 → (∀ r : Nat, r < p → (μ 11) ((μ 18) (gIt (pU (μ 11) (μ 12) (μ 18)) r a)) = gIt (pU (μ 11) (μ 12) (μ 18)) r a → A ≤ (μ 17) ((μ 18) (gIt (pU (μ 11) (μ 12) (μ 18)) r a))) → Q (some (gI (A))) g_SH μ) : gCall g_T g_F sN sX D 32 [gR 9, gI a] g_SH μ Q := by
  obtain ⟨hE, q, -, q2⟩ := iU_E hG hU
  have G := hG.1
  have P := hC.1
  obtain ⟨d, rfl⟩ := gD (show 1 ≤ D by omega)
  refine gC 300 [8] rfl ?_
  (conv => whnf); try simp only [gO, gWe, ne_eq, Nat.reduceEqDiff, not_false_eq_true, true_or, or_true, true_and]
  have key : ∀ s : Int, 0 ≤ s → s ≤ p - 1 → ∀ (A : Int) (x : GV), 1 ≤ A → A ≤ 1073741824 → (∀ r : Nat, (r : Int) < s → (μ 11) ((μ 18) (gIt (pU (μ 11) (μ 12) (μ 18)) r a)) = gIt (pU (μ 11) (μ 12) (μ 18)) r a → A ≤ (μ 17) ((μ 18) (gIt (pU (μ 11) (μ 12) (μ 18)) r a))) → gG g_T g_F (gCall g_T g_F sN sX d) sN sX (g_T 32) Q 8 [gR 9, gI a, gI A, gI (gIt (pU (μ 11) (μ 12) (μ 18)) s.toNat a), gI s, x] [] g_SH μ 0 0 := by
    have one : ∀ s : Int, 0 ≤ s → s ≤ p - 1 → ∀ (A : Int), 1 ≤ A → A ≤ 1073741824 → (∀ r : Nat, (r : Int) < s → (μ 11) ((μ 18) (gIt (pU (μ 11) (μ 12) (μ 18)) r a)) = gIt (pU (μ 11) (μ 12) (μ 18)) r a → A ≤ (μ 17) ((μ 18) (gIt (pU (μ 11) (μ 12) (μ 18)) r a))) → ∃ A' : Int, A' = (if (μ 11) ((μ 18) (gIt (pU (μ 11) (μ 12) (μ 18)) s.toNat a)) = gIt (pU (μ 11) (μ 12) (μ 18)) s.toNat a then min A ((μ 17) ((μ 18) (gIt (pU (μ 11) (μ 12) (μ 18)) s.toNat a))) else A) ∧ 1 ≤ A' ∧ A' ≤ 1073741824 ∧ ∀ r : Nat, (r : Int) < s + 1 → (μ 11) ((μ 18) (gIt (pU (μ 11) (μ 12) (μ 18)) r a)) = gIt (pU (μ 11) (μ 12) (μ 18)) r a → A' ≤ (μ 17) ((μ 18) (gIt (pU (μ 11) (μ 12) (μ 18)) r a)) := by
      intro s s0 s1 A A0 A1 hA
      have c := (hC.2.2.2.1 s.toNat).2 (by omega)
      have ee := hE _ c.1.1 c.1.2
      refine ⟨_, rfl, ?_⟩
      by_cases hc : (μ 11) ((μ 18) (gIt (pU (μ 11) (μ 12) (μ 18)) s.toNat a)) = gIt (pU (μ 11) (μ 12) (μ 18)) s.toNat a
      · rw [if_pos hc]
        have f1 : 0 < (μ 17) ((μ 18) (gIt (pU (μ 11) (μ 12) (μ 18)) s.toNat a)) := by
          rcases c.2 with z | z
          · exact absurd (hc.trans z.symm) ee.2.2.1
          · exact z.2.2
        refine ⟨by omega, by omega, fun r hr hu => ?_⟩
        by_cases hd : r = s.toNat
        · subst hd; omega
        · have := hA r (by omega) hu
          omega
      · rw [if_neg hc]
        refine ⟨A0, A1, fun r hr hu => ?_⟩
        by_cases hd : r = s.toNat
        · subst hd; exact absurd hu hc
        · exact hA r (by omega) hu
    refine g_up (fun s s0 s1 ih A x A0 A1 hA => ?_) (fun A x A0 A1 hA => ?_)
    · obtain ⟨A', a1, a2, a3, a4⟩ := one s s0 (by omega) A A0 A1 hA
      have c := hC.2.2.2.1 s.toNat
      have c2 := c.2 (by omega)
      have nx := hC.2.2.1 (s.toNat + 1) (by omega) (by omega)
      have i := ih A' (gI ((μ 18) (gIt (pU (μ 11) (μ 12) (μ 18)) s.toNat a))) a2 a3 a4
      rw [show (s + 1).toNat = s.toNat + 1 by omega] at i
      clear hA a4 ih
      have e1 : gIt (pU (μ 11) (μ 12) (μ 18)) (s.toNat + 1) a = pU (μ 11) (μ 12) (μ 18) (gIt (pU (μ 11) (μ 12) (μ 18)) s.toNat a) := rfl
      rw [e1] at nx i
      generalize gIt (pU (μ 11) (μ 12) (μ 18)) s.toNat a = v at *
      have pr := c2.1
      clear c2
      by_cases hc : (μ 11) ((μ 18) v) = v
      · rw [if_pos hc] at a1
        rw [a1] at i
        clear a1 a2 a3
        refine gB_gG [8] 300 ?_
        (conv => whnf); try simp only [gO, gWe, ne_eq, Nat.reduceEqDiff, not_false_eq_true, true_or, or_true, true_and]
        repeat' (first | exact True.intro | (refine ⟨fun hb => ?_, fun hb => ?_⟩ <;> first | (exfalso; omega; done) | exact absurd True.intro hb | ((conv => whnf); try simp only [gO, gWe, ne_eq, Nat.reduceEqDiff, not_false_eq_true, true_or, or_true, true_and])) | (refine ⟨by omega, ?_⟩; (conv => whnf); try simp only [gO, gWe, ne_eq, Nat.reduceEqDiff, not_false_eq_true, true_or, or_true, true_and]) | (refine ⟨fun hb => ?_, ?_⟩ <;> first | (exfalso; omega; done) | exact absurd True.intro hb | ((conv => whnf); try simp only [gO, gWe, ne_eq, Nat.reduceEqDiff, not_false_eq_true, true_or, or_true, true_and])) | fail)
        refine t_31 (by omega) hG hE (by omega) (by omega) (by omega) (by omega) ?_
        (conv => whnf); try simp only [gO, gWe, ne_eq, Nat.reduceEqDiff, not_false_eq_true, true_or, or_true, true_and]
        repeat' (first | exact True.intro | (refine ⟨fun hb => ?_, fun hb => ?_⟩ <;> first | (exfalso; omega; done) | exact absurd True.intro hb | ((conv => whnf); try simp only [gO, gWe, ne_eq, Nat.reduceEqDiff, not_false_eq_true, true_or, or_true, true_and])) | (refine ⟨by omega, ?_⟩; (conv => whnf); try simp only [gO, gWe, ne_eq, Nat.reduceEqDiff, not_false_eq_true, true_or, or_true, true_and]) | (refine ⟨fun hb => ?_, ?_⟩ <;> first | (exfalso; omega; done) | exact absurd True.intro hb | ((conv => whnf); try simp only [gO, gWe, ne_eq, Nat.reduceEqDiff, not_false_eq_true, true_or, or_true, true_and])) | fail)
        exact i
      · rw [if_neg hc] at a1
        rw [a1] at i
        clear a1 a2 a3
        refine gB_gG [8] 300 ?_
        (conv => whnf); try simp only [gO, gWe, ne_eq, Nat.reduceEqDiff, not_false_eq_true, true_or, or_true, true_and]
        repeat' (first | exact True.intro | (refine ⟨fun hb => ?_, fun hb => ?_⟩ <;> first | (exfalso; omega; done) | exact absurd True.intro hb | ((conv => whnf); try simp only [gO, gWe, ne_eq, Nat.reduceEqDiff, not_false_eq_true, true_or, or_true, true_and])) | (refine ⟨by omega, ?_⟩; (conv => whnf); try simp only [gO, gWe, ne_eq, Nat.reduceEqDiff, not_false_eq_true, true_or, or_true, true_and]) | (refine ⟨fun hb => ?_, ?_⟩ <;> first | (exfalso; omega; done) | exact absurd True.intro hb | ((conv => whnf); try simp only [gO, gWe, ne_eq, Nat.reduceEqDiff, not_false_eq_true, true_or, or_true, true_and])) | fail)
        refine t_31 (by omega) hG hE (by omega) (by omega) (by omega) (by omega) ?_
        (conv => whnf); try simp only [gO, gWe, ne_eq, Nat.reduceEqDiff, not_false_eq_true, true_or, or_true, true_and]
        repeat' (first | exact True.intro | (refine ⟨fun hb => ?_, fun hb => ?_⟩ <;> first | (exfalso; omega; done) | exact absurd True.intro hb | ((conv => whnf); try simp only [gO, gWe, ne_eq, Nat.reduceEqDiff, not_false_eq_true, true_or, or_true, true_and])) | (refine ⟨by omega, ?_⟩; (conv => whnf); try simp only [gO, gWe, ne_eq, Nat.reduceEqDiff, not_false_eq_true, true_or, or_true, true_and]) | (refine ⟨fun hb => ?_, ?_⟩ <;> first | (exfalso; omega; done) | exact absurd True.intro hb | ((conv => whnf); try simp only [gO, gWe, ne_eq, Nat.reduceEqDiff, not_false_eq_true, true_or, or_true, true_and])) | fail)
        exact i
    · obtain ⟨A', a1, a2, a3, a4⟩ := one (p - 1) (by omega) (by omega) A A0 A1 hA
      have c := hC.2.2.2.1 ((p : Int) - 1).toNat
      have c2 := c.2 (by omega)
      have rt := hC.2.1
      have e1 : gIt (pU (μ 11) (μ 12) (μ 18)) p a = pU (μ 11) (μ 12) (μ 18) (gIt (pU (μ 11) (μ 12) (μ 18)) ((p : Int) - 1).toNat a) := by
        rw [show gIt (pU (μ 11) (μ 12) (μ 18)) p a = gIt (pU (μ 11) (μ 12) (μ 18)) (((p : Int) - 1).toNat + 1) a by rw [show ((p : Int) - 1).toNat + 1 = p by omega]]
        rfl
      rw [e1] at rt
      obtain ⟨r, r1, r2, -⟩ := pCyc_u hC q2
      have cr := (hC.2.2.2.1 r).2 r1
      have A6 := hF _ cr.1.1 cr.1.2
      have A7 := a4 r (by omega) r2
      have A8 : A' ≤ 660 := by omega
      have fin := h A' a2 A8 (fun r hr => a4 r (by omega))
      clear hA a4 A6 A7 cr r2
      generalize gIt (pU (μ 11) (μ 12) (μ 18)) ((p : Int) - 1).toNat a = v at *
      have pr := c2.1
      clear c2
      by_cases hc : (μ 11) ((μ 18) v) = v
      · rw [if_pos hc] at a1
        rw [a1] at fin A8
        clear a1 a2 a3
        refine gB_gG [8] 300 ?_
        (conv => whnf); try simp only [gO, gWe, ne_eq, Nat.reduceEqDiff, not_false_eq_true, true_or, or_true, true_and]
        repeat' (first | exact True.intro | (refine ⟨fun hb => ?_, fun hb => ?_⟩ <;> first | (exfalso; omega; done) | exact absurd True.intro hb | ((conv => whnf); try simp only [gO, gWe, ne_eq, Nat.reduceEqDiff, not_false_eq_true, true_or, or_true, true_and])) | (refine ⟨by omega, ?_⟩; (conv => whnf); try simp only [gO, gWe, ne_eq, Nat.reduceEqDiff, not_false_eq_true, true_or, or_true, true_and]) | (refine ⟨fun hb => ?_, ?_⟩ <;> first | (exfalso; omega; done) | exact absurd True.intro hb | ((conv => whnf); try simp only [gO, gWe, ne_eq, Nat.reduceEqDiff, not_false_eq_true, true_or, or_true, true_and])) | fail)
        refine t_31 (by omega) hG hE (by omega) (by omega) (by omega) (by omega) ?_
        (conv => whnf); try simp only [gO, gWe, ne_eq, Nat.reduceEqDiff, not_false_eq_true, true_or, or_true, true_and]
        repeat' (first | exact True.intro | (refine ⟨fun hb => ?_, fun hb => ?_⟩ <;> first | (exfalso; omega; done) | exact absurd True.intro hb | ((conv => whnf); try simp only [gO, gWe, ne_eq, Nat.reduceEqDiff, not_false_eq_true, true_or, or_true, true_and])) | (refine ⟨by omega, ?_⟩; (conv => whnf); try simp only [gO, gWe, ne_eq, Nat.reduceEqDiff, not_false_eq_true, true_or, or_true, true_and]) | (refine ⟨fun hb => ?_, ?_⟩ <;> first | (exfalso; omega; done) | exact absurd True.intro hb | ((conv => whnf); try simp only [gO, gWe, ne_eq, Nat.reduceEqDiff, not_false_eq_true, true_or, or_true, true_and])) | fail)
        exact fin
      · rw [if_neg hc] at a1
        rw [a1] at fin A8
        clear a1 a2 a3
        refine gB_gG [8] 300 ?_
        (conv => whnf); try simp only [gO, gWe, ne_eq, Nat.reduceEqDiff, not_false_eq_true, true_or, or_true, true_and]
        repeat' (first | exact True.intro | (refine ⟨fun hb => ?_, fun hb => ?_⟩ <;> first | (exfalso; omega; done) | exact absurd True.intro hb | ((conv => whnf); try simp only [gO, gWe, ne_eq, Nat.reduceEqDiff, not_false_eq_true, true_or, or_true, true_and])) | (refine ⟨by omega, ?_⟩; (conv => whnf); try simp only [gO, gWe, ne_eq, Nat.reduceEqDiff, not_false_eq_true, true_or, or_true, true_and]) | (refine ⟨fun hb => ?_, ?_⟩ <;> first | (exfalso; omega; done) | exact absurd True.intro hb | ((conv => whnf); try simp only [gO, gWe, ne_eq, Nat.reduceEqDiff, not_false_eq_true, true_or, or_true, true_and])) | fail)
        refine t_31 (by omega) hG hE (by omega) (by omega) (by omega) (by omega) ?_
        (conv => whnf); try simp only [gO, gWe, ne_eq, Nat.reduceEqDiff, not_false_eq_true, true_or, or_true, true_and]
        repeat' (first | exact True.intro | (refine ⟨fun hb => ?_, fun hb => ?_⟩ <;> first | (exfalso; omega; done) | exact absurd True.intro hb | ((conv => whnf); try simp only [gO, gWe, ne_eq, Nat.reduceEqDiff, not_false_eq_true, true_or, or_true, true_and])) | (refine ⟨by omega, ?_⟩; (conv => whnf); try simp only [gO, gWe, ne_eq, Nat.reduceEqDiff, not_false_eq_true, true_or, or_true, true_and]) | (refine ⟨fun hb => ?_, ?_⟩ <;> first | (exfalso; omega; done) | exact absurd True.intro hb | ((conv => whnf); try simp only [gO, gWe, ne_eq, Nat.reduceEqDiff, not_false_eq_true, true_or, or_true, true_and])) | fail)
        exact fin
  exact key 0 (by omega) (by omega) 1073741824 _ (by omega) (by omega) (fun r hr => by omega)
