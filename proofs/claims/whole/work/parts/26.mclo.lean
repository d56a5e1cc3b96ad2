/-! the model closes the groups of a layer -/
theorem t_160r {D : Nat} (hD : 1 ≤ D) {μ : MU} {Q : GQ} {y : Int} (h0 : 0 ≤ y) (h1 : y ≤ 39) (h : Q (some (gI ((μ 62) (129 + y)))) g_SH μ) : gCall g_T g_F D 160 [gR 61, gI y] g_SH μ Q := by
  obtain ⟨d, rfl⟩ := gD (show 1 ≤ D by omega)
  refine gC 300 [] rfl ?_
  (conv => whnf); try simp only [gO, gWe, ne_eq, Nat.reduceEqDiff, not_false_eq_true, true_or, or_true, true_and]
  repeat' (first | exact True.intro | (refine ⟨fun hb => ?_, fun hb => ?_⟩ <;> first | (exfalso; omega; done) | exact absurd True.intro hb | ((conv => whnf); try simp only [gO, gWe, ne_eq, Nat.reduceEqDiff, not_false_eq_true, true_or, or_true, true_and])) | (refine ⟨by omega, ?_⟩; (conv => whnf); try simp only [gO, gWe, ne_eq, Nat.reduceEqDiff, not_false_eq_true, true_or, or_true, true_and]) | (refine ⟨fun hb => ?_, ?_⟩ <;> first | (exfalso; omega; done) | exact absurd True.intro hb | ((conv => whnf); try simp only [gO, gWe, ne_eq, Nat.reduceEqDiff, not_false_eq_true, true_or, or_true, true_and])) | fail)
  exact h
theorem t_166 {D : Nat} (hD : 2 ≤ D) {μ : MU} {Q : GQ} {y : Int} {sq pl : Int → Int} (hM : iM μ) (hN : iN μ) (hO : iO μ sq pl) (y0 : 0 ≤ y) (y1 : y < (μ 9 1)) (hS1 : (μ 62) (129 + y) = (μ 23) y) (hS2 : (μ 62) (129 + (y + 1)) = (μ 23) (y + 1)) (hq : ∀ k : Int, (μ 23) y ≤ k → k < (μ 23) (y + 1) → (μ 62) (169 + k) = (μ 20) (sq k)) (h : ∀ ν : MU, gFr [62, 71] μ ν → (∀ k : Int, ¬ (169 + (μ 23) y ≤ k ∧ k < 169 + (μ 23) (y + 1)) → ν 62 k = μ 62 k) → (∀ k : Int, (μ 23) y ≤ k → k < (μ 23) (y + 1) → ν 62 (169 + k) = (μ 20) (cloS μ sq y k)) → Q none g_SH ν) : gCall g_T g_F D 166 [gR 61, gI y] g_SH μ Q := by
  have hG := hM.1
  have hL := hM.2.1
  have L := hL.2.2.2.1
  have V := hN.1
  have G := hG.1
  have st := (iN_st hG hL hN).1 y y0 y1
  have cv := cloS_v hG hL hN hO y0 y1
  have hr : ∀ k : Int, (μ 23) y ≤ k → k < (μ 23) (y + 1) → 0 ≤ sq k ∧ sq k < (μ 19 2) := fun k k0 k1 => (hO.1 y y0 y1 k k0 k1).1
  have hinj : ∀ k k' : Int, (μ 23) y ≤ k → k < (μ 23) (y + 1) → (μ 23) y ≤ k' → k' < (μ 23) (y + 1) → sq k = sq k' → k = k' := fun k k' k0 k1 k2 k3 h => iO_inj hG hL hN hO (by omega) (by omega) (by omega) (by omega) h
  have ci := hClo_i hG (fun k k0 k1 => (hr k k0 k1).1) hinj
  have cS : ∀ k : Int, (μ 23) y ≤ k → k < (μ 23) (y + 1) → cloS μ sq y k = (hClo μ sq ((μ 23) y) ((μ 23) (y + 1)) ((μ 23) (y + 1) - (μ 23) y).toNat).1.2 (k - (μ 23) y) := fun k k0 k1 => if_pos ⟨k0, k1⟩
  have cn := cv.1
  generalize hs : (μ 23) y = s at *
  generalize he : (μ 23) (y + 1) = e at *
  obtain ⟨d, rfl⟩ := gD (show 1 ≤ D by omega)
  refine gC 300 [11] rfl ?_
  (conv => whnf); try simp only [gO, gWe, ne_eq, Nat.reduceEqDiff, not_false_eq_true, true_or, or_true, true_and]
  refine t_160r (by omega) y0 (by omega) ?_
  rw [hS1]
  (conv => whnf); try simp only [gO, gWe, ne_eq, Nat.reduceEqDiff, not_false_eq_true, true_or, or_true, true_and]
  have key : ∀ k : Int, s ≤ k → k ≤ e → ∀ (ν : MU) (x z : GV), gFr [71] μ ν → (∀ r : Int, 0 ≤ r → r < (hClo μ sq s e (k - s).toNat).1.1 → (ν 71) r = (μ 20) ((hClo μ sq s e (k - s).toNat).1.2 r)) → gG g_T g_F (gCall g_T g_F d) 0 (fun _ => 0) (g_T 166) Q 11 [gR 61, gI y, gI (hClo μ sq s e (k - s).toNat).1.1, gI (hClo μ sq s e (k - s).toNat).2, gI k, x, z] [] g_SH ν 0 0 := by
    refine g_up (fun k k0 k1 ih ν x z hν h1 => ?_) (fun ν x z hν h1 => ?_)
    · have s1 : hSt μ ν := hν.st (by decide)
      have M' : iM ν := iM_c s1 (hν.sm (by decide) (by decide) (by decide)) hM
      have N' : iN ν := iN_c s1 hN
      have e1 : ν 62 = μ 62 := hν 62 (by decide)
      obtain ⟨c1, c2, c3, c4, c5⟩ := ci (k - s).toNat (by omega)
      obtain ⟨d1, d2, d3, d4, d5⟩ := ci ((k - s).toNat + 1) (by omega)
      have n0 := iV_n (by omega) c1
      have n1 := iV_n (by omega) d1
      have n2 := c1.1
      have gb := xGr_b hG (hr k (by omega) (by omega)).1
      rw [show (k + 1 - s).toNat = (k - s).toNat + 1 by omega] at ih
      have ek : s + ((k - s).toNat : Int) = k := by omega
      have step : hClo μ sq s e ((k - s).toNat + 1) = if xGr μ (sq k) = 0 then (((hClo μ sq s e (k - s).toNat).1.1 + 1, gUp (hClo μ sq s e (k - s).toNat).1.2 (hClo μ sq s e (k - s).toNat).1.1 (sq k)), (hClo μ sq s e (k - s).toNat).2)
          else if gAnd (gShr (hClo μ sq s e (k - s).toNat).2 (xGr μ (sq k))) 1 = 0 then (hPut μ sq (xGr μ (sq k)) k (e - k).toNat (hClo μ sq s e (k - s).toNat).1, gOr (hClo μ sq s e (k - s).toNat).2 (gShl 1 (xGr μ (sq k))))
          else hClo μ sq s e (k - s).toNat := by
        show (if xGr μ (sq (s + ((k - s).toNat : Int))) = 0 then _ else if gAnd (gShr _ (xGr μ (sq (s + ((k - s).toNat : Int))))) 1 = 0 then (hPut μ sq (xGr μ (sq (s + ((k - s).toNat : Int)))) (s + ((k - s).toNat : Int)) (e - (s + ((k - s).toNat : Int))).toNat _, _) else _) = _
        rw [ek]
      rw [step] at ih n1
      clear d1 d2 d3 d4 d5 step
      have ci' := hPut_i (μ := μ) (g := xGr μ (sq k)) hinj k0 c1 c4 c5
      generalize hClo μ sq s e (k - s).toNat = w at *
      have r3 := hr k (by omega) k1
      have f3 : ν 62 (169 + k) = (ν 20) (sq k) := by rw [e1, s1 20 (by decide) (by decide)]; exact hq k k0 k1
      have f2 : ν 62 (129 + (y + 1)) = e := by rw [e1]; exact hS2
      have v1 : sq k < (ν 19 2) := by rw [s1 19 (by decide) (by decide)]; exact r3.2
      by_cases hg : xGr μ (sq k) = 0
      · rw [if_pos hg] at ih n1
        dsimp only at ih n1
        refine gB_gG [11] 300 ?_
        (conv => whnf); try simp only [gO, gWe, ne_eq, Nat.reduceEqDiff, not_false_eq_true, true_or, or_true, true_and]
        repeat' (first | exact True.intro | (refine ⟨fun hb => ?_, fun hb => ?_⟩ <;> first | (exfalso; omega; done) | exact absurd True.intro hb | ((conv => whnf); try simp only [gO, gWe, ne_eq, Nat.reduceEqDiff, not_false_eq_true, true_or, or_true, true_and])) | (refine ⟨by omega, ?_⟩; (conv => whnf); try simp only [gO, gWe, ne_eq, Nat.reduceEqDiff, not_false_eq_true, true_or, or_true, true_and]) | (refine ⟨fun hb => ?_, ?_⟩ <;> first | (exfalso; omega; done) | exact absurd True.intro hb | ((conv => whnf); try simp only [gO, gWe, ne_eq, Nat.reduceEqDiff, not_false_eq_true, true_or, or_true, true_and])) | fail)
        refine t_160r (by omega) (by omega) (by omega) ?_
        rw [f2]
        (conv => whnf); try simp only [gO, gWe, ne_eq, Nat.reduceEqDiff, not_false_eq_true, true_or, or_true, true_and]
        repeat' (first | exact True.intro | (refine ⟨fun hb => ?_, fun hb => ?_⟩ <;> first | (exfalso; omega; done) | exact absurd True.intro hb | ((conv => whnf); try simp only [gO, gWe, ne_eq, Nat.reduceEqDiff, not_false_eq_true, true_or, or_true, true_and])) | (refine ⟨by omega, ?_⟩; (conv => whnf); try simp only [gO, gWe, ne_eq, Nat.reduceEqDiff, not_false_eq_true, true_or, or_true, true_and]) | (refine ⟨fun hb => ?_, ?_⟩ <;> first | (exfalso; omega; done) | exact absurd True.intro hb | ((conv => whnf); try simp only [gO, gWe, ne_eq, Nat.reduceEqDiff, not_false_eq_true, true_or, or_true, true_and])) | fail)
        rw [f3]
        refine t_159 (by omega) M' N' r3.1 v1 ?_
        rw [xGr_c s1]
        (conv => whnf); try simp only [gO, gWe, ne_eq, Nat.reduceEqDiff, not_false_eq_true, true_or, or_true, true_and]
        repeat' (first | exact True.intro | (refine ⟨fun hb => ?_, fun hb => ?_⟩ <;> first | (exfalso; omega; done) | exact absurd True.intro hb | ((conv => whnf); try simp only [gO, gWe, ne_eq, Nat.reduceEqDiff, not_false_eq_true, true_or, or_true, true_and])) | (refine ⟨by omega, ?_⟩; (conv => whnf); try simp only [gO, gWe, ne_eq, Nat.reduceEqDiff, not_false_eq_true, true_or, or_true, true_and]) | (refine ⟨fun hb => ?_, ?_⟩ <;> first | (exfalso; omega; done) | exact absurd True.intro hb | ((conv => whnf); try simp only [gO, gWe, ne_eq, Nat.reduceEqDiff, not_false_eq_true, true_or, or_true, true_and])) | fail)
        rw [f3]
        refine ih _ _ _ (hν.W (by decide)) (fun r r0 r1 => ?_)
        by_cases c : r = w.1.1
        · subst c
          rw [gWe, gUp_s, s1 20 (by decide) (by decide)]
        · rw [gWn _ _ _ c, gUp_o _ _ c]
          exact h1 r r0 (by omega)
      · rw [if_neg hg] at ih n1
        have bt := g_bit c2 (g := xGr μ (sq k)) (by omega)
        by_cases hbit : gAnd (gShr w.2 (xGr μ (sq k))) 1 = 0
        · rw [if_pos hbit] at ih n1
          dsimp only at ih n1
          have nb : ¬ gHas w.2 (xGr μ (sq k)) := fun h => by have := bt.2.1.mpr h; omega
          have ci2 := ci' (fun j j0 j1 hp he' => by
            rcases hp with p | p
            · omega
            · rw [he'] at p; exact nb p.2)
          have inn : ∀ j : Int, k ≤ j → j ≤ e → ∀ (ρ : MU), gFr [71] μ ρ → (∀ r : Int, 0 ≤ r → r < (hPut μ sq (xGr μ (sq k)) k (j - k).toNat w.1).1 → (ρ 71) r = (μ 20) ((hPut μ sq (xGr μ (sq k)) k (j - k).toNat w.1).2 r)) → gG g_T g_F (gCall g_T g_F d) 0 (fun _ => 0) (g_T 166) Q 88 [gR 61, gI y, gI (hPut μ sq (xGr μ (sq k)) k (j - k).toNat w.1).1, gI (gOr w.2 (gShl 1 (xGr μ (sq k)))), gI k, gI (xGr μ (sq k)), gI j] [] g_SH ρ 0 0 := by
            refine g_up (fun j j0 j1 ihj ρ hρ p1 => ?_) (fun ρ hρ p1 => ?_)
            · have t1 : hSt μ ρ := hρ.st (by decide)
              have M2 : iM ρ := iM_c t1 (hρ.sm (by decide) (by decide) (by decide)) hM
              have N2 : iN ρ := iN_c t1 hN
              have u1 : ρ 62 = μ 62 := hρ 62 (by decide)
              have u2 : ρ 62 (129 + (y + 1)) = e := by rw [u1]; exact hS2
              have u3 : ρ 62 (169 + j) = (ρ 20) (sq j) := by rw [u1, t1 20 (by decide) (by decide)]; exact hq j (by omega) j1
              have rj := hr j (by omega) j1
              have u4 : sq j < (ρ 19 2) := by rw [t1 19 (by decide) (by decide)]; exact rj.2
              have m0 := (ci2 (j - k).toNat (by omega)).1
              have m1 := (ci2 ((j - k).toNat + 1) (by omega)).1
              have a0 := iV_n (by omega) m0
              have a1 := iV_n (by omega) m1
              have a2 := m0.1
              rw [show (j + 1 - k).toNat = (j - k).toNat + 1 by omega] at ihj
              have ej : k + ((j - k).toNat : Int) = j := by omega
              have stj : hPut μ sq (xGr μ (sq k)) k ((j - k).toNat + 1) w.1 = if xGr μ (sq j) = xGr μ (sq k) then ((hPut μ sq (xGr μ (sq k)) k (j - k).toNat w.1).1 + 1, gUp (hPut μ sq (xGr μ (sq k)) k (j - k).toNat w.1).2 (hPut μ sq (xGr μ (sq k)) k (j - k).toNat w.1).1 (sq j)) else hPut μ sq (xGr μ (sq k)) k (j - k).toNat w.1 := by
                show (if xGr μ (sq (k + ((j - k).toNat : Int))) = xGr μ (sq k) then _ else _) = _
                rw [ej]
              rw [stj] at ihj a1
              refine gB_gG [88] 300 ?_
              (conv => whnf); try simp only [gO, gWe, ne_eq, Nat.reduceEqDiff, not_false_eq_true, true_or, or_true, true_and]
              repeat' (first | exact True.intro | (refine ⟨fun hb => ?_, fun hb => ?_⟩ <;> first | (exfalso; omega; done) | exact absurd True.intro hb | ((conv => whnf); try simp only [gO, gWe, ne_eq, Nat.reduceEqDiff, not_false_eq_true, true_or, or_true, true_and])) | (refine ⟨by omega, ?_⟩; (conv => whnf); try simp only [gO, gWe, ne_eq, Nat.reduceEqDiff, not_false_eq_true, true_or, or_true, true_and]) | (refine ⟨fun hb => ?_, ?_⟩ <;> first | (exfalso; omega; done) | exact absurd True.intro hb | ((conv => whnf); try simp only [gO, gWe, ne_eq, Nat.reduceEqDiff, not_false_eq_true, true_or, or_true, true_and])) | fail)
              refine t_160r (by omega) (by omega) (by omega) ?_
              rw [u2]
              (conv => whnf); try simp only [gO, gWe, ne_eq, Nat.reduceEqDiff, not_false_eq_true, true_or, or_true, true_and]
              repeat' (first | exact True.intro | (refine ⟨fun hb => ?_, fun hb => ?_⟩ <;> first | (exfalso; omega; done) | exact absurd True.intro hb | ((conv => whnf); try simp only [gO, gWe, ne_eq, Nat.reduceEqDiff, not_false_eq_true, true_or, or_true, true_and])) | (refine ⟨by omega, ?_⟩; (conv => whnf); try simp only [gO, gWe, ne_eq, Nat.reduceEqDiff, not_false_eq_true, true_or, or_true, true_and]) | (refine ⟨fun hb => ?_, ?_⟩ <;> first | (exfalso; omega; done) | exact absurd True.intro hb | ((conv => whnf); try simp only [gO, gWe, ne_eq, Nat.reduceEqDiff, not_false_eq_true, true_or, or_true, true_and])) | fail)
              rw [u3]
              refine t_159 (by omega) M2 N2 rj.1 u4 ?_
              rw [xGr_c t1]
              (conv => whnf); try simp only [gO, gWe, ne_eq, Nat.reduceEqDiff, not_false_eq_true, true_or, or_true, true_and]
              by_cases hgj : xGr μ (sq j) = xGr μ (sq k)
              · rw [if_pos hgj] at ihj a1
                dsimp only at ihj a1
                repeat' (first | exact True.intro | (refine ⟨fun hb => ?_, fun hb => ?_⟩ <;> first | (exfalso; omega; done) | exact absurd True.intro hb | ((conv => whnf); try simp only [gO, gWe, ne_eq, Nat.reduceEqDiff, not_false_eq_true, true_or, or_true, true_and])) | (refine ⟨by omega, ?_⟩; (conv => whnf); try simp only [gO, gWe, ne_eq, Nat.reduceEqDiff, not_false_eq_true, true_or, or_true, true_and]) | (refine ⟨fun hb => ?_, ?_⟩ <;> first | (exfalso; omega; done) | exact absurd True.intro hb | ((conv => whnf); try simp only [gO, gWe, ne_eq, Nat.reduceEqDiff, not_false_eq_true, true_or, or_true, true_and])) | fail)
                rw [u3]
                refine ihj _ (hρ.W (by decide)) (fun r r0 r1 => ?_)
                by_cases c : r = (hPut μ sq (xGr μ (sq k)) k (j - k).toNat w.1).1
                · subst c
                  rw [gWe, gUp_s, t1 20 (by decide) (by decide)]
                · rw [gWn _ _ _ c, gUp_o _ _ c]
                  exact p1 r r0 (by omega)
              · rw [if_neg hgj] at ihj a1
                repeat' (first | exact True.intro | (refine ⟨fun hb => ?_, fun hb => ?_⟩ <;> first | (exfalso; omega; done) | exact absurd True.intro hb | ((conv => whnf); try simp only [gO, gWe, ne_eq, Nat.reduceEqDiff, not_false_eq_true, true_or, or_true, true_and])) | (refine ⟨by omega, ?_⟩; (conv => whnf); try simp only [gO, gWe, ne_eq, Nat.reduceEqDiff, not_false_eq_true, true_or, or_true, true_and]) | (refine ⟨fun hb => ?_, ?_⟩ <;> first | (exfalso; omega; done) | exact absurd True.intro hb | ((conv => whnf); try simp only [gO, gWe, ne_eq, Nat.reduceEqDiff, not_false_eq_true, true_or, or_true, true_and])) | fail)
                exact ihj ρ hρ p1
            · have t1 : hSt μ ρ := hρ.st (by decide)
              have u1 : ρ 62 = μ 62 := hρ 62 (by decide)
              have u2 : ρ 62 (129 + (y + 1)) = e := by rw [u1]; exact hS2
              refine gB_gG [88,11] 300 ?_
              (conv => whnf); try simp only [gO, gWe, ne_eq, Nat.reduceEqDiff, not_false_eq_true, true_or, or_true, true_and]
              repeat' (first | exact True.intro | (refine ⟨fun hb => ?_, fun hb => ?_⟩ <;> first | (exfalso; omega; done) | exact absurd True.intro hb | ((conv => whnf); try simp only [gO, gWe, ne_eq, Nat.reduceEqDiff, not_false_eq_true, true_or, or_true, true_and])) | (refine ⟨by omega, ?_⟩; (conv => whnf); try simp only [gO, gWe, ne_eq, Nat.reduceEqDiff, not_false_eq_true, true_or, or_true, true_and]) | (refine ⟨fun hb => ?_, ?_⟩ <;> first | (exfalso; omega; done) | exact absurd True.intro hb | ((conv => whnf); try simp only [gO, gWe, ne_eq, Nat.reduceEqDiff, not_false_eq_true, true_or, or_true, true_and])) | fail)
              refine t_160r (by omega) (by omega) (by omega) ?_
              rw [u2]
              (conv => whnf); try simp only [gO, gWe, ne_eq, Nat.reduceEqDiff, not_false_eq_true, true_or, or_true, true_and]
              repeat' (first | exact True.intro | (refine ⟨fun hb => ?_, fun hb => ?_⟩ <;> first | (exfalso; omega; done) | exact absurd True.intro hb | ((conv => whnf); try simp only [gO, gWe, ne_eq, Nat.reduceEqDiff, not_false_eq_true, true_or, or_true, true_and])) | (refine ⟨by omega, ?_⟩; (conv => whnf); try simp only [gO, gWe, ne_eq, Nat.reduceEqDiff, not_false_eq_true, true_or, or_true, true_and]) | (refine ⟨fun hb => ?_, ?_⟩ <;> first | (exfalso; omega; done) | exact absurd True.intro hb | ((conv => whnf); try simp only [gO, gWe, ne_eq, Nat.reduceEqDiff, not_false_eq_true, true_or, or_true, true_and])) | fail)
              exact ih ρ _ _ hρ p1
          refine gB_gG [11,88] 300 ?_
          (conv => whnf); try simp only [gO, gWe, ne_eq, Nat.reduceEqDiff, not_false_eq_true, true_or, or_true, true_and]
          repeat' (first | exact True.intro | (refine ⟨fun hb => ?_, fun hb => ?_⟩ <;> first | (exfalso; omega; done) | exact absurd True.intro hb | ((conv => whnf); try simp only [gO, gWe, ne_eq, Nat.reduceEqDiff, not_false_eq_true, true_or, or_true, true_and])) | (refine ⟨by omega, ?_⟩; (conv => whnf); try simp only [gO, gWe, ne_eq, Nat.reduceEqDiff, not_false_eq_true, true_or, or_true, true_and]) | (refine ⟨fun hb => ?_, ?_⟩ <;> first | (exfalso; omega; done) | exact absurd True.intro hb | ((conv => whnf); try simp only [gO, gWe, ne_eq, Nat.reduceEqDiff, not_false_eq_true, true_or, or_true, true_and])) | fail)
          refine t_160r (by omega) (by omega) (by omega) ?_
          rw [f2]
          (conv => whnf); try simp only [gO, gWe, ne_eq, Nat.reduceEqDiff, not_false_eq_true, true_or, or_true, true_and]
          repeat' (first | exact True.intro | (refine ⟨fun hb => ?_, fun hb => ?_⟩ <;> first | (exfalso; omega; done) | exact absurd True.intro hb | ((conv => whnf); try simp only [gO, gWe, ne_eq, Nat.reduceEqDiff, not_false_eq_true, true_or, or_true, true_and])) | (refine ⟨by omega, ?_⟩; (conv => whnf); try simp only [gO, gWe, ne_eq, Nat.reduceEqDiff, not_false_eq_true, true_or, or_true, true_and]) | (refine ⟨fun hb => ?_, ?_⟩ <;> first | (exfalso; omega; done) | exact absurd True.intro hb | ((conv => whnf); try simp only [gO, gWe, ne_eq, Nat.reduceEqDiff, not_false_eq_true, true_or, or_true, true_and])) | fail)
          rw [f3]
          refine t_159 (by omega) M' N' r3.1 v1 ?_
          rw [xGr_c s1]
          (conv => whnf); try simp only [gO, gWe, ne_eq, Nat.reduceEqDiff, not_false_eq_true, true_or, or_true, true_and]
          repeat' (first | exact True.intro | (refine ⟨fun hb => ?_, fun hb => ?_⟩ <;> first | (exfalso; omega; done) | exact absurd True.intro hb | ((conv => whnf); try simp only [gO, gWe, ne_eq, Nat.reduceEqDiff, not_false_eq_true, true_or, or_true, true_and])) | (refine ⟨by omega, ?_⟩; (conv => whnf); try simp only [gO, gWe, ne_eq, Nat.reduceEqDiff, not_false_eq_true, true_or, or_true, true_and]) | (refine ⟨fun hb => ?_, ?_⟩ <;> first | (exfalso; omega; done) | exact absurd True.intro hb | ((conv => whnf); try simp only [gO, gWe, ne_eq, Nat.reduceEqDiff, not_false_eq_true, true_or, or_true, true_and])) | fail)
          have z := inn k (by omega) (by omega) ν hν
          rw [show (k - k).toNat = 0 by omega] at z
          exact z h1
        · rw [if_neg hbit] at ih n1
          refine gB_gG [11] 300 ?_
          (conv => whnf); try simp only [gO, gWe, ne_eq, Nat.reduceEqDiff, not_false_eq_true, true_or, or_true, true_and]
          repeat' (first | exact True.intro | (refine ⟨fun hb => ?_, fun hb => ?_⟩ <;> first | (exfalso; omega; done) | exact absurd True.intro hb | ((conv => whnf); try simp only [gO, gWe, ne_eq, Nat.reduceEqDiff, not_false_eq_true, true_or, or_true, true_and])) | (refine ⟨by omega, ?_⟩; (conv => whnf); try simp only [gO, gWe, ne_eq, Nat.reduceEqDiff, not_false_eq_true, true_or, or_true, true_and]) | (refine ⟨fun hb => ?_, ?_⟩ <;> first | (exfalso; omega; done) | exact absurd True.intro hb | ((conv => whnf); try simp only [gO, gWe, ne_eq, Nat.reduceEqDiff, not_false_eq_true, true_or, or_true, true_and])) | fail)
          refine t_160r (by omega) (by omega) (by omega) ?_
          rw [f2]
          (conv => whnf); try simp only [gO, gWe, ne_eq, Nat.reduceEqDiff, not_false_eq_true, true_or, or_true, true_and]
          repeat' (first | exact True.intro | (refine ⟨fun hb => ?_, fun hb => ?_⟩ <;> first | (exfalso; omega; done) | exact absurd True.intro hb | ((conv => whnf); try simp only [gO, gWe, ne_eq, Nat.reduceEqDiff, not_false_eq_true, true_or, or_true, true_and])) | (refine ⟨by omega, ?_⟩; (conv => whnf); try simp only [gO, gWe, ne_eq, Nat.reduceEqDiff, not_false_eq_true, true_or, or_true, true_and]) | (refine ⟨fun hb => ?_, ?_⟩ <;> first | (exfalso; omega; done) | exact absurd True.intro hb | ((conv => whnf); try simp only [gO, gWe, ne_eq, Nat.reduceEqDiff, not_false_eq_true, true_or, or_true, true_and])) | fail)
          rw [f3]
          refine t_159 (by omega) M' N' r3.1 v1 ?_
          rw [xGr_c s1]
          (conv => whnf); try simp only [gO, gWe, ne_eq, Nat.reduceEqDiff, not_false_eq_true, true_or, or_true, true_and]
          repeat' (first | exact True.intro | (refine ⟨fun hb => ?_, fun hb => ?_⟩ <;> first | (exfalso; omega; done) | exact absurd True.intro hb | ((conv => whnf); try simp only [gO, gWe, ne_eq, Nat.reduceEqDiff, not_false_eq_true, true_or, or_true, true_and])) | (refine ⟨by omega, ?_⟩; (conv => whnf); try simp only [gO, gWe, ne_eq, Nat.reduceEqDiff, not_false_eq_true, true_or, or_true, true_and]) | (refine ⟨fun hb => ?_, ?_⟩ <;> first | (exfalso; omega; done) | exact absurd True.intro hb | ((conv => whnf); try simp only [gO, gWe, ne_eq, Nat.reduceEqDiff, not_false_eq_true, true_or, or_true, true_and])) | fail)
          exact ih ν _ _ hν h1
    · have s1 : hSt μ ν := hν.st (by decide)
      have e1 : ν 62 = μ 62 := hν 62 (by decide)
      have f2 : ν 62 (129 + (y + 1)) = e := by rw [e1]; exact hS2
      generalize hClo μ sq s e (e - s).toNat = w at *
      have fin : ∀ r : Int, 0 ≤ r → r ≤ e - s → ∀ ρ : MU, gFr [62, 71] μ ρ → (∀ k : Int, ¬ (169 + s ≤ k ∧ k < 169 + s + r) → ρ 62 k = μ 62 k) → (∀ j : Int, 0 ≤ j → j < r → ρ 62 (169 + s + j) = (μ 20) (w.1.2 j)) → (∀ j : Int, 0 ≤ j → j < e - s → (ρ 71) j = (μ 20) (w.1.2 j)) → gG g_T g_F (gCall g_T g_F d) 0 (fun _ => 0) (g_T 166) Q 155 [gR 61, gI y, gI w.1.1, gI w.2, gI r, x, z] [] g_SH ρ 0 0 := by
        refine g_up (fun r r0 r1 ihr ρ hρ p1 p2 p3 => ?_) (fun ρ hρ p1 p2 p3 => ?_)
        · have u2 : ρ 62 (129 + y) = s := by rw [p1 _ (by omega)]; exact hS1
          have u3 := p3 r r0 r1
          refine gB_gG [155] 300 ?_
          (conv => whnf); try simp only [gO, gWe, ne_eq, Nat.reduceEqDiff, not_false_eq_true, true_or, or_true, true_and]
          repeat' (first | exact True.intro | (refine ⟨fun hb => ?_, fun hb => ?_⟩ <;> first | (exfalso; omega; done) | exact absurd True.intro hb | ((conv => whnf); try simp only [gO, gWe, ne_eq, Nat.reduceEqDiff, not_false_eq_true, true_or, or_true, true_and])) | (refine ⟨by omega, ?_⟩; (conv => whnf); try simp only [gO, gWe, ne_eq, Nat.reduceEqDiff, not_false_eq_true, true_or, or_true, true_and]) | (refine ⟨fun hb => ?_, ?_⟩ <;> first | (exfalso; omega; done) | exact absurd True.intro hb | ((conv => whnf); try simp only [gO, gWe, ne_eq, Nat.reduceEqDiff, not_false_eq_true, true_or, or_true, true_and])) | fail)
          refine t_160r (by omega) (by omega) (by omega) ?_
          rw [u2]
          (conv => whnf); try simp only [gO, gWe, ne_eq, Nat.reduceEqDiff, not_false_eq_true, true_or, or_true, true_and]
          repeat' (first | exact True.intro | (refine ⟨fun hb => ?_, fun hb => ?_⟩ <;> first | (exfalso; omega; done) | exact absurd True.intro hb | ((conv => whnf); try simp only [gO, gWe, ne_eq, Nat.reduceEqDiff, not_false_eq_true, true_or, or_true, true_and])) | (refine ⟨by omega, ?_⟩; (conv => whnf); try simp only [gO, gWe, ne_eq, Nat.reduceEqDiff, not_false_eq_true, true_or, or_true, true_and]) | (refine ⟨fun hb => ?_, ?_⟩ <;> first | (exfalso; omega; done) | exact absurd True.intro hb | ((conv => whnf); try simp only [gO, gWe, ne_eq, Nat.reduceEqDiff, not_false_eq_true, true_or, or_true, true_and])) | fail)
          rw [u3]
          refine ihr _ (hρ.W (by decide)) (fun k hk => ?_) (fun j j0 j1 => ?_) (fun j j0 j1 => ?_)
          · rw [gWn _ _ _ (by omega)]
            exact p1 k (by omega)
          · by_cases c : j = r
            · subst c; rw [gWe]
            · rw [gWn _ _ _ (by omega)]
              exact p2 j j0 (by omega)
          · rw [gO (by decide)]
            exact p3 j j0 j1
        · refine gB_gG [155] 300 ?_
          (conv => whnf); try simp only [gO, gWe, ne_eq, Nat.reduceEqDiff, not_false_eq_true, true_or, or_true, true_and]
          repeat' (first | exact True.intro | (refine ⟨fun hb => ?_, fun hb => ?_⟩ <;> first | (exfalso; omega; done) | exact absurd True.intro hb | ((conv => whnf); try simp only [gO, gWe, ne_eq, Nat.reduceEqDiff, not_false_eq_true, true_or, or_true, true_and])) | (refine ⟨by omega, ?_⟩; (conv => whnf); try simp only [gO, gWe, ne_eq, Nat.reduceEqDiff, not_false_eq_true, true_or, or_true, true_and]) | (refine ⟨fun hb => ?_, ?_⟩ <;> first | (exfalso; omega; done) | exact absurd True.intro hb | ((conv => whnf); try simp only [gO, gWe, ne_eq, Nat.reduceEqDiff, not_false_eq_true, true_or, or_true, true_and])) | fail)
          refine h ρ hρ (fun k hk => p1 k (by omega)) (fun k k0 k1 => ?_)
          rw [cS k k0 k1, show 169 + k = 169 + s + (k - s) by omega]
          exact p2 _ (by omega) (by omega)
      refine gB_gG [155] 300 ?_
      (conv => whnf); try simp only [gO, gWe, ne_eq, Nat.reduceEqDiff, not_false_eq_true, true_or, or_true, true_and]
      repeat' (first | exact True.intro | (refine ⟨fun hb => ?_, fun hb => ?_⟩ <;> first | (exfalso; omega; done) | exact absurd True.intro hb | ((conv => whnf); try simp only [gO, gWe, ne_eq, Nat.reduceEqDiff, not_false_eq_true, true_or, or_true, true_and])) | (refine ⟨by omega, ?_⟩; (conv => whnf); try simp only [gO, gWe, ne_eq, Nat.reduceEqDiff, not_false_eq_true, true_or, or_true, true_and]) | (refine ⟨fun hb => ?_, ?_⟩ <;> first | (exfalso; omega; done) | exact absurd True.intro hb | ((conv => whnf); try simp only [gO, gWe, ne_eq, Nat.reduceEqDiff, not_false_eq_true, true_or, or_true, true_and])) | fail)
      refine t_160r (by omega) (by omega) (by omega) ?_
      rw [f2]
      (conv => whnf); try simp only [gO, gWe, ne_eq, Nat.reduceEqDiff, not_false_eq_true, true_or, or_true, true_and]
      repeat' (first | exact True.intro | (refine ⟨fun hb => ?_, fun hb => ?_⟩ <;> first | (exfalso; omega; done) | exact absurd True.intro hb | ((conv => whnf); try simp only [gO, gWe, ne_eq, Nat.reduceEqDiff, not_false_eq_true, true_or, or_true, true_and])) | (refine ⟨by omega, ?_⟩; (conv => whnf); try simp only [gO, gWe, ne_eq, Nat.reduceEqDiff, not_false_eq_true, true_or, or_true, true_and]) | (refine ⟨fun hb => ?_, ?_⟩ <;> first | (exfalso; omega; done) | exact absurd True.intro hb | ((conv => whnf); try simp only [gO, gWe, ne_eq, Nat.reduceEqDiff, not_false_eq_true, true_or, or_true, true_and])) | fail)
      exact fin 0 (by omega) (by omega) ν (hν.mo (by decide)) (fun k _ => by rw [e1]) (fun j _ _ => by omega) (fun j j0 j1 => h1 j j0 (by omega))
  have z := key s (by omega) (by omega) μ (gN 2) (gN 2) gFr.rf
  rw [show (s - s).toNat = 0 by omega] at z
  exact z (fun r r0 r1 => by have : r < 0 := r1; omega)
