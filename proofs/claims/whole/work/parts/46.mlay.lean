/-! the model finds the layers -/
def iMr (μ : MU) : Prop := iG μ ∧ iL μ ∧ iGm μ ∧ ∀ e : Int, 0 ≤ e → e < (μ 1 1) → (μ 66) e = (μ 10) e
theorem t_142r {D : Nat} (hD : 2 ≤ D) {μ : MU} {Q : GQ} {e : Int} (hM : iMr μ) (h0 : 0 ≤ e) (h1 : e < (μ 1 1)) (h : Q (some (gI ((μ 11) e))) g_SH μ) : gCall g_T g_F D 142 [gR 61, gI e] g_SH μ Q := by
  obtain ⟨hG, hL, hm, hF⟩ := hM
  have G := hG.1
  have E := iE hG hL h0 h1
  have r := hF e h0 h1
  have m := hm.2.2 e h0 h1
  have u := hL.1 e h0 h1
  obtain ⟨d, rfl⟩ := gD (show 1 ≤ D by omega)
  refine gC 300 [] rfl ?_
  (conv => whnf); try simp only [gO, gWe, ne_eq, Nat.reduceEqDiff, not_false_eq_true, true_or, or_true, true_and]
  repeat' (first | exact True.intro | (refine ⟨fun hb => ?_, fun hb => ?_⟩ <;> first | (exfalso; omega; done) | exact absurd True.intro hb | ((conv => whnf); try simp only [gO, gWe, ne_eq, Nat.reduceEqDiff, not_false_eq_true, true_or, or_true, true_and])) | (refine ⟨by omega, ?_⟩; (conv => whnf); try simp only [gO, gWe, ne_eq, Nat.reduceEqDiff, not_false_eq_true, true_or, or_true, true_and]) | (refine ⟨fun hb => ?_, ?_⟩ <;> first | (exfalso; omega; done) | exact absurd True.intro hb | ((conv => whnf); try simp only [gO, gWe, ne_eq, Nat.reduceEqDiff, not_false_eq_true, true_or, or_true, true_and])) | fail)
  · refine t_127 (by omega) ?_ ?_ ?_ <;> try omega
    (conv => whnf); try simp only [gO, gWe, ne_eq, Nat.reduceEqDiff, not_false_eq_true, true_or, or_true, true_and]
    repeat' (first | exact True.intro | (refine ⟨fun hb => ?_, fun hb => ?_⟩ <;> first | (exfalso; omega; done) | exact absurd True.intro hb | ((conv => whnf); try simp only [gO, gWe, ne_eq, Nat.reduceEqDiff, not_false_eq_true, true_or, or_true, true_and])) | (refine ⟨by omega, ?_⟩; (conv => whnf); try simp only [gO, gWe, ne_eq, Nat.reduceEqDiff, not_false_eq_true, true_or, or_true, true_and]) | (refine ⟨fun hb => ?_, ?_⟩ <;> first | (exfalso; omega; done) | exact absurd True.intro hb | ((conv => whnf); try simp only [gO, gWe, ne_eq, Nat.reduceEqDiff, not_false_eq_true, true_or, or_true, true_and])) | fail)
    rw [show (μ 11) e = μ 62 (29 + 5 * e + 0) by omega] at h
    exact h
  · refine t_127 (by omega) ?_ ?_ ?_ <;> try omega
    (conv => whnf); try simp only [gO, gWe, ne_eq, Nat.reduceEqDiff, not_false_eq_true, true_or, or_true, true_and]
    repeat' (first | exact True.intro | (refine ⟨fun hb => ?_, fun hb => ?_⟩ <;> first | (exfalso; omega; done) | exact absurd True.intro hb | ((conv => whnf); try simp only [gO, gWe, ne_eq, Nat.reduceEqDiff, not_false_eq_true, true_or, or_true, true_and])) | (refine ⟨by omega, ?_⟩; (conv => whnf); try simp only [gO, gWe, ne_eq, Nat.reduceEqDiff, not_false_eq_true, true_or, or_true, true_and]) | (refine ⟨fun hb => ?_, ?_⟩ <;> first | (exfalso; omega; done) | exact absurd True.intro hb | ((conv => whnf); try simp only [gO, gWe, ne_eq, Nat.reduceEqDiff, not_false_eq_true, true_or, or_true, true_and])) | fail)
    rw [show (μ 11) e = μ 62 (29 + 5 * e + 1) by omega] at h
    exact h
theorem t_143r {D : Nat} (hD : 2 ≤ D) {μ : MU} {Q : GQ} {e : Int} (hM : iMr μ) (h0 : 0 ≤ e) (h1 : e < (μ 1 1)) (h : Q (some (gI ((μ 12) e))) g_SH μ) : gCall g_T g_F D 143 [gR 61, gI e] g_SH μ Q := by
  obtain ⟨hG, hL, hm, hF⟩ := hM
  have G := hG.1
  have E := iE hG hL h0 h1
  have r := hF e h0 h1
  have m := hm.2.2 e h0 h1
  have u := hL.1 e h0 h1
  obtain ⟨d, rfl⟩ := gD (show 1 ≤ D by omega)
  refine gC 300 [] rfl ?_
  (conv => whnf); try simp only [gO, gWe, ne_eq, Nat.reduceEqDiff, not_false_eq_true, true_or, or_true, true_and]
  repeat' (first | exact True.intro | (refine ⟨fun hb => ?_, fun hb => ?_⟩ <;> first | (exfalso; omega; done) | exact absurd True.intro hb | ((conv => whnf); try simp only [gO, gWe, ne_eq, Nat.reduceEqDiff, not_false_eq_true, true_or, or_true, true_and])) | (refine ⟨by omega, ?_⟩; (conv => whnf); try simp only [gO, gWe, ne_eq, Nat.reduceEqDiff, not_false_eq_true, true_or, or_true, true_and]) | (refine ⟨fun hb => ?_, ?_⟩ <;> first | (exfalso; omega; done) | exact absurd True.intro hb | ((conv => whnf); try simp only [gO, gWe, ne_eq, Nat.reduceEqDiff, not_false_eq_true, true_or, or_true, true_and])) | fail)
  · refine t_127 (by omega) ?_ ?_ ?_ <;> try omega
    (conv => whnf); try simp only [gO, gWe, ne_eq, Nat.reduceEqDiff, not_false_eq_true, true_or, or_true, true_and]
    repeat' (first | exact True.intro | (refine ⟨fun hb => ?_, fun hb => ?_⟩ <;> first | (exfalso; omega; done) | exact absurd True.intro hb | ((conv => whnf); try simp only [gO, gWe, ne_eq, Nat.reduceEqDiff, not_false_eq_true, true_or, or_true, true_and])) | (refine ⟨by omega, ?_⟩; (conv => whnf); try simp only [gO, gWe, ne_eq, Nat.reduceEqDiff, not_false_eq_true, true_or, or_true, true_and]) | (refine ⟨fun hb => ?_, ?_⟩ <;> first | (exfalso; omega; done) | exact absurd True.intro hb | ((conv => whnf); try simp only [gO, gWe, ne_eq, Nat.reduceEqDiff, not_false_eq_true, true_or, or_true, true_and])) | fail)
    rw [show (μ 12) e = μ 62 (29 + 5 * e + 1) by omega] at h
    exact h
  · refine t_127 (by omega) ?_ ?_ ?_ <;> try omega
    (conv => whnf); try simp only [gO, gWe, ne_eq, Nat.reduceEqDiff, not_false_eq_true, true_or, or_true, true_and]
    repeat' (first | exact True.intro | (refine ⟨fun hb => ?_, fun hb => ?_⟩ <;> first | (exfalso; omega; done) | exact absurd True.intro hb | ((conv => whnf); try simp only [gO, gWe, ne_eq, Nat.reduceEqDiff, not_false_eq_true, true_or, or_true, true_and])) | (refine ⟨by omega, ?_⟩; (conv => whnf); try simp only [gO, gWe, ne_eq, Nat.reduceEqDiff, not_false_eq_true, true_or, or_true, true_and]) | (refine ⟨fun hb => ?_, ?_⟩ <;> first | (exfalso; omega; done) | exact absurd True.intro hb | ((conv => whnf); try simp only [gO, gWe, ne_eq, Nat.reduceEqDiff, not_false_eq_true, true_or, or_true, true_and])) | fail)
    rw [show (μ 12) e = μ 62 (29 + 5 * e + 0) by omega] at h
    exact h
theorem iL_uE {μ : MU} (hG : iG μ) (hL : iL μ) : uE (μ 1 0) (μ 1 1) (μ 11) (μ 12) (μ 8) := (iU_E hG hL.1).1
theorem t_145 {D : Nat} (hD : 3 ≤ D) {μ : MU} {Q : GQ} {S : Int} (hM : iMr μ) (S0 : 0 ≤ S) (S1 : S < 4096) (hl : ∀ i : Int, 0 ≤ i → i < (μ 1 0) → 0 ≤ (μ 67) i ∧ (μ 67) i ≤ 33) (hk : cOk (μ 1 1) (μ 11) (μ 12) (μ 8) (μ 67) (hX S) → Q (some (gI (cCh (μ 1 1) (μ 11) (μ 12) (hX S)))) g_SH μ) (hn : ¬ cOk (μ 1 1) (μ 11) (μ 12) (μ 8) (μ 67) (hX S) → Q (some (gI (100))) g_SH μ) : gCall g_T g_F D 145 [gR 61, gI S] g_SH μ Q := by
  have hG := hM.1
  have hE := iL_uE hG hM.2.1
  have G := hG.1
  have m1 := hM.2.2.1.1
  obtain ⟨d, rfl⟩ := gD (show 1 ≤ D by omega)
  refine gC 300 [4] rfl ?_
  (conv => whnf); try simp only [gO, gWe, ne_eq, Nat.reduceEqDiff, not_false_eq_true, true_or, or_true, true_and]
  have key : ∀ e : Int, 0 ≤ e → e ≤ (μ 1 1) → ∀ (x y : GV), (∀ e' : Int, 0 ≤ e' → e' < e → hX S ((μ 11) e') ≤ hX S ((μ 12) e') ∨ (μ 67) ((μ 12) e') - (μ 67) ((μ 11) e') ≠ (μ 8) e') → gG g_T g_F (gCall g_T g_F d) 0 (fun _ => 0) (g_T 145) Q 4 [gR 61, gI S, gI (gSum (fun e => hX S ((μ 12) e) - hX S ((μ 11) e)) e.toNat), gI e, x, y] [] g_SH μ 0 0 := by
    refine g_up (fun e e0 e1 ih x y hok => ?_) (fun x y hok => ?_)
    · have ee := hE e e0 e1
      have gm := (hM.2.2.1.2.2 e e0 e1).2.2.2.2
      have lu := hl _ ee.1.1 ee.1.2
      have ll := hl _ ee.2.1.1 ee.2.1.2
      have xu := b_bit S0 S1 ee.1.1 (show (μ 11) e < 12 by omega)
      have xl := b_bit S0 S1 ee.2.1.1 (show (μ 12) e < 12 by omega)
      have u01 := hX_01 S ((μ 11) e)
      have l01 := hX_01 S ((μ 12) e)
      have bu : 0 ≤ hX S ((μ 11) e) ∧ hX S ((μ 11) e) ≤ 1 := by omega
      have bl : 0 ≤ hX S ((μ 12) e) ∧ hX S ((μ 12) e) ≤ 1 := by omega
      have sb := gSum_b (f := fun e => hX S ((μ 12) e) - hX S ((μ 11) e)) (a := -1) (b := 1) e.toNat (fun i _ _ => by
        have a := hX_01 S ((μ 12) i)
        have b := hX_01 S ((μ 11) i)
        show -1 ≤ hX S ((μ 12) i) - hX S ((μ 11) i) ∧ hX S ((μ 12) i) - hX S ((μ 11) i) ≤ 1
        omega)
      rw [gSum_s _ e e0] at ih
      generalize gSum (fun e => hX S ((μ 12) e) - hX S ((μ 11) e)) e.toNat = s at *
      have bad : hX S ((μ 12) e) < hX S ((μ 11) e) → (μ 67) ((μ 12) e) - (μ 67) ((μ 11) e) = (μ 8) e → Q (some (gI (100))) g_SH μ := fun h1 h2 => hn (fun h => by
        have := h e e0 e1
        omega)
      have good : (hX S ((μ 11) e) ≤ hX S ((μ 12) e) ∨ (μ 67) ((μ 12) e) - (μ 67) ((μ 11) e) ≠ (μ 8) e) → ∀ x y : GV, gG g_T g_F (gCall g_T g_F d) 0 (fun _ => 0) (g_T 145) Q 4 [gR 61, gI S, gI (s + (hX S ((μ 12) e) - hX S ((μ 11) e))), gI (e + 1), x, y] [] g_SH μ 0 0 := fun h1 x y => ih x y (fun e' a0 a1 => by
        by_cases hc : e' = e
        · rw [hc]; exact h1
        · exact hok e' a0 (by omega))
      rw [← xu, ← xl] at bad good
      rw [← xu] at bu
      rw [← xl] at bl
      clear u01 l01 ih hok hn hk xu xl hE
      refine gB_gG [4] 300 ?_
      (conv => whnf); try simp only [gO, gWe, ne_eq, Nat.reduceEqDiff, not_false_eq_true, true_or, or_true, true_and]
      repeat' (first | exact True.intro | (refine ⟨fun hb => ?_, fun hb => ?_⟩ <;> first | (exfalso; omega; done) | exact absurd True.intro hb | ((conv => whnf); try simp only [gO, gWe, ne_eq, Nat.reduceEqDiff, not_false_eq_true, true_or, or_true, true_and])) | (refine ⟨by omega, ?_⟩; (conv => whnf); try simp only [gO, gWe, ne_eq, Nat.reduceEqDiff, not_false_eq_true, true_or, or_true, true_and]) | (refine ⟨fun hb => ?_, ?_⟩ <;> first | (exfalso; omega; done) | exact absurd True.intro hb | ((conv => whnf); try simp only [gO, gWe, ne_eq, Nat.reduceEqDiff, not_false_eq_true, true_or, or_true, true_and])) | fail)
      refine t_142r (by omega) hM e0 e1 ?_
      (conv => whnf); try simp only [gO, gWe, ne_eq, Nat.reduceEqDiff, not_false_eq_true, true_or, or_true, true_and]
      repeat' (first | exact True.intro | (refine ⟨fun hb => ?_, fun hb => ?_⟩ <;> first | (exfalso; omega; done) | exact absurd True.intro hb | ((conv => whnf); try simp only [gO, gWe, ne_eq, Nat.reduceEqDiff, not_false_eq_true, true_or, or_true, true_and])) | (refine ⟨by omega, ?_⟩; (conv => whnf); try simp only [gO, gWe, ne_eq, Nat.reduceEqDiff, not_false_eq_true, true_or, or_true, true_and]) | (refine ⟨fun hb => ?_, ?_⟩ <;> first | (exfalso; omega; done) | exact absurd True.intro hb | ((conv => whnf); try simp only [gO, gWe, ne_eq, Nat.reduceEqDiff, not_false_eq_true, true_or, or_true, true_and])) | fail)
      refine t_143r (by omega) hM e0 e1 ?_
      (conv => whnf); try simp only [gO, gWe, ne_eq, Nat.reduceEqDiff, not_false_eq_true, true_or, or_true, true_and]
      repeat' (first | exact True.intro | (refine ⟨fun hb => ?_, fun hb => ?_⟩ <;> first | (exfalso; omega; done) | exact absurd True.intro hb | ((conv => whnf); try simp only [gO, gWe, ne_eq, Nat.reduceEqDiff, not_false_eq_true, true_or, or_true, true_and])) | (refine ⟨by omega, ?_⟩; (conv => whnf); try simp only [gO, gWe, ne_eq, Nat.reduceEqDiff, not_false_eq_true, true_or, or_true, true_and]) | (refine ⟨fun hb => ?_, ?_⟩ <;> first | (exfalso; omega; done) | exact absurd True.intro hb | ((conv => whnf); try simp only [gO, gWe, ne_eq, Nat.reduceEqDiff, not_false_eq_true, true_or, or_true, true_and])) | fail)
      · exact good (Or.inl hb) _ _
      · refine t_143r (by omega) hM e0 e1 ?_
        (conv => whnf); try simp only [gO, gWe, ne_eq, Nat.reduceEqDiff, not_false_eq_true, true_or, or_true, true_and]
        repeat' (first | exact True.intro | (refine ⟨fun hb => ?_, fun hb => ?_⟩ <;> first | (exfalso; omega; done) | exact absurd True.intro hb | ((conv => whnf); try simp only [gO, gWe, ne_eq, Nat.reduceEqDiff, not_false_eq_true, true_or, or_true, true_and])) | (refine ⟨by omega, ?_⟩; (conv => whnf); try simp only [gO, gWe, ne_eq, Nat.reduceEqDiff, not_false_eq_true, true_or, or_true, true_and]) | (refine ⟨fun hb => ?_, ?_⟩ <;> first | (exfalso; omega; done) | exact absurd True.intro hb | ((conv => whnf); try simp only [gO, gWe, ne_eq, Nat.reduceEqDiff, not_false_eq_true, true_or, or_true, true_and])) | fail)
        refine t_142r (by omega) hM e0 e1 ?_
        (conv => whnf); try simp only [gO, gWe, ne_eq, Nat.reduceEqDiff, not_false_eq_true, true_or, or_true, true_and]
        repeat' (first | exact True.intro | (refine ⟨fun hb => ?_, fun hb => ?_⟩ <;> first | (exfalso; omega; done) | exact absurd True.intro hb | ((conv => whnf); try simp only [gO, gWe, ne_eq, Nat.reduceEqDiff, not_false_eq_true, true_or, or_true, true_and])) | (refine ⟨by omega, ?_⟩; (conv => whnf); try simp only [gO, gWe, ne_eq, Nat.reduceEqDiff, not_false_eq_true, true_or, or_true, true_and]) | (refine ⟨fun hb => ?_, ?_⟩ <;> first | (exfalso; omega; done) | exact absurd True.intro hb | ((conv => whnf); try simp only [gO, gWe, ne_eq, Nat.reduceEqDiff, not_false_eq_true, true_or, or_true, true_and])) | fail)
        refine t_127 (by omega) ?_ ?_ ?_ <;> try omega
        (conv => whnf); try simp only [gO, gWe, ne_eq, Nat.reduceEqDiff, not_false_eq_true, true_or, or_true, true_and]
        repeat' (first | exact True.intro | (refine ⟨fun hb => ?_, fun hb => ?_⟩ <;> first | (exfalso; omega; done) | exact absurd True.intro hb | ((conv => whnf); try simp only [gO, gWe, ne_eq, Nat.reduceEqDiff, not_false_eq_true, true_or, or_true, true_and])) | (refine ⟨by omega, ?_⟩; (conv => whnf); try simp only [gO, gWe, ne_eq, Nat.reduceEqDiff, not_false_eq_true, true_or, or_true, true_and]) | (refine ⟨fun hb => ?_, ?_⟩ <;> first | (exfalso; omega; done) | exact absurd True.intro hb | ((conv => whnf); try simp only [gO, gWe, ne_eq, Nat.reduceEqDiff, not_false_eq_true, true_or, or_true, true_and])) | fail)
        · exact good (Or.inr (by omega)) _ _
        · exact bad (by omega) (by omega)
    · have fin := hk hok
      unfold cCh at fin
      clear hok hn hk hE
      refine gB_gG [4] 300 ?_
      (conv => whnf); try simp only [gO, gWe, ne_eq, Nat.reduceEqDiff, not_false_eq_true, true_or, or_true, true_and]
      repeat' (first | exact True.intro | (refine ⟨fun hb => ?_, fun hb => ?_⟩ <;> first | (exfalso; omega; done) | exact absurd True.intro hb | ((conv => whnf); try simp only [gO, gWe, ne_eq, Nat.reduceEqDiff, not_false_eq_true, true_or, or_true, true_and])) | (refine ⟨by omega, ?_⟩; (conv => whnf); try simp only [gO, gWe, ne_eq, Nat.reduceEqDiff, not_false_eq_true, true_or, or_true, true_and]) | (refine ⟨fun hb => ?_, ?_⟩ <;> first | (exfalso; omega; done) | exact absurd True.intro hb | ((conv => whnf); try simp only [gO, gWe, ne_eq, Nat.reduceEqDiff, not_false_eq_true, true_or, or_true, true_and])) | fail)
      exact fin
  exact key 0 (by omega) (by omega) _ _ (fun e' _ _ => by omega)
/-- the sets before k have been tried -/
def hBB (n m : Int) (up lo ls l : Int → Int) (best common k : Int) : Prop := (∀ S : Int, 1 ≤ S → S < k → cOk m up lo ls l (hX S) → best ≤ cCh m up lo (hX S)) ∧
  (best < 0 → (∃ S : Int, 1 ≤ S ∧ S < k ∧ cB m up lo ls l best (hX S)) ∧ ∀ i : Int, 0 ≤ i → i < n → (hX common i = 1 ↔ ∀ S : Int, 1 ≤ S → S < k → cB m up lo ls l best (hX S) → hX S i = 1))
theorem hBB_0 {n m : Int} {up lo ls l : Int → Int} : hBB n m up lo ls l 0 0 1 := ⟨fun S s0 s1 => by omega, fun h => by omega⟩
theorem hBB_l {n m : Int} {up lo ls l : Int → Int} {best common k : Int} (k0 : 1 ≤ k) (h : hBB n m up lo ls l best common k) (hk : cOk m up lo ls l (hX k)) (hv : cCh m up lo (hX k) < best) : hBB n m up lo ls l (cCh m up lo (hX k)) k (k + 1) := by
  refine ⟨fun S s0 s1 hS => ?_, fun _ => ⟨⟨k, k0, by omega, hX_01 k, hk, rfl⟩, fun i i0 i1 => ⟨fun hi S s0 s1 hS => ?_, fun hh => hh k k0 (by omega) ⟨hX_01 k, hk, rfl⟩⟩⟩⟩
  · by_cases hc : S = k
    · rw [hc]; exact Int.le_refl _
    · have := h.1 S s0 (by omega) hS
      omega
  · by_cases hc : S = k
    · rw [hc]; exact hi
    · have := h.1 S s0 (by omega) hS.2.1
      have := hS.2.2
      omega
theorem hBB_e {n m : Int} {up lo ls l : Int → Int} {best common k : Int} (k0 : 1 ≤ k) (k1 : k < 4096) (c0 : 0 ≤ common) (c1 : common < 4096) (h : hBB n m up lo ls l best common k) (hk : cOk m up lo ls l (hX k)) (hv : cCh m up lo (hX k) = best) : hBB n m up lo ls l best (gAnd common k) (k + 1) := by
  refine ⟨fun S s0 s1 hS => ?_, fun hb => ?_⟩
  · by_cases hc : S = k
    · rw [hc]; omega
    · exact h.1 S s0 (by omega) hS
  · obtain ⟨⟨S, s0, s1, s2⟩, h2⟩ := h.2 hb
    refine ⟨⟨S, s0, by omega, s2⟩, fun i i0 i1 => ?_⟩
    rw [(b_andX c0 c1 (by omega) k1).2, h2 i i0 i1]
    refine ⟨fun hh T t0 t1 hT => ?_, fun hh => ⟨fun T t0 t1 hT => hh T t0 (by omega) hT, hh k k0 (by omega) ⟨hX_01 k, hk, hv⟩⟩⟩
    by_cases hc : T = k
    · rw [hc]; exact hh.2
    · exact hh.1 T t0 (by omega) hT
theorem hBB_g {n m : Int} {up lo ls l : Int → Int} {best common k : Int} (h : hBB n m up lo ls l best common k) (hk : cOk m up lo ls l (hX k) → best < cCh m up lo (hX k)) : hBB n m up lo ls l best common (k + 1) := by
  refine ⟨fun S s0 s1 hS => ?_, fun hb => ?_⟩
  · by_cases hc : S = k
    · rw [hc] at hS ⊢; exact Int.le_of_lt (hk hS)
    · exact h.1 S s0 (by omega) hS
  · obtain ⟨⟨S, s0, s1, s2⟩, h2⟩ := h.2 hb
    refine ⟨⟨S, s0, by omega, s2⟩, fun i i0 i1 => ?_⟩
    rw [h2 i i0 i1]
    refine ⟨fun hh T t0 t1 hT => ?_, fun hh T t0 t1 hT => hh T t0 (by omega) hT⟩
    by_cases hc : T = k
    · rw [hc] at hT
      have := hk hT.2.1
      have := hT.2.2
      omega
    · exact hh T t0 (by omega) hT
theorem hBB_m {n m : Int} {up lo ls l : Int → Int} {best common : Int} (n0 : 0 ≤ n) (n1 : n ≤ 12) (hE : uE n m up lo ls) (h : hBB n m up lo ls l best common ((2 ^ n.toNat : Nat) : Int)) : cMin n m up lo ls l best := fun X h01 hne hok => by
  obtain ⟨S, s0, s1, -, s2⟩ := b_num n0 n1 X h01 hne
  have := h.1 S s0 s1 (cOk_c hE (fun i i0 i1 => (s2 i i0 i1).symm) hok)
  rw [cCh_c hE s2] at this
  exact this
theorem gTot_c {n m : Int} {up lo ls X Y : Int → Int} (hE : uE n m up lo ls) (h : ∀ i : Int, 0 ≤ i → i < n → X i = Y i) : gTot m up lo X = gTot m up lo Y := gSum_c _ (fun e e0 e1 => by
  have ee := hE e e0 (by omega)
  show X (lo e) - X (up e) = Y (lo e) - Y (up e)
  rw [h _ ee.1.1 ee.1.2, h _ ee.2.1.1 ee.2.1.2])
theorem cLe_c {n m : Int} {up lo ls X Y : Int → Int} (hE : uE n m up lo ls) (h : ∀ i : Int, 0 ≤ i → i < n → X i = Y i) (hX : cLe m up lo ls X) : cLe m up lo ls Y := fun e e0 e1 => by
  have ee := hE e e0 e1
  rw [← h _ ee.1.1 ee.1.2, ← h _ ee.2.1.1 ee.2.1.2]
  exact hX e e0 e1
theorem cLe_0 {n m : Int} {up lo ls l : Int → Int} (hE : uE n m up lo ls) (h : cLe m up lo ls l) : 0 ≤ gTot m up lo l := by
  have := gSum_l (f := fun _ => 0) (g := fun e => l (lo e) - l (up e)) m.toNat (fun e e0 e1 => by
    have ee := hE e e0 (by omega)
    have a := h e e0 (by omega)
    show 0 ≤ l (lo e) - l (up e)
    omega)
  rw [gSum_0 (f := fun _ => 0) _ (fun _ _ _ => rfl)] at this
  exact this
theorem gFr.iMr {μ ν : MU} (hM : iG μ ∧ iL μ ∧ iGm μ) (h : gFr [66, 67, 68, 69, 70] μ ν) (hr : ∀ e : Int, 0 ≤ e → e < (μ 1 1) → (ν 66) e = (μ 10) e) : iMr ν := by
  have st : hSt μ ν := h.st (by decide)
  refine ⟨iG_c st hM.1, iL_c st hM.2.1, ?_, ?_⟩
  · unfold iGm at *
    simp only [st 1 (by decide) (by decide), st 2 (by decide) (by decide), st 3 (by decide) (by decide), st 4 (by decide) (by decide), st 5 (by decide) (by decide), st 6 (by decide) (by decide), st 7 (by decide) (by decide), st 8 (by decide) (by decide), st 9 (by decide) (by decide), st 10 (by decide) (by decide), st 11 (by decide) (by decide), st 12 (by decide) (by decide), st 13 (by decide) (by decide), st 14 (by decide) (by decide), st 15 (by decide) (by decide), st 16 (by decide) (by decide), st 17 (by decide) (by decide), st 18 (by decide) (by decide), st 19 (by decide) (by decide), st 20 (by decide) (by decide), st 21 (by decide) (by decide), st 22 (by decide) (by decide), st 23 (by decide) (by decide)]
    rw [h 62 (by decide)]
    exact hM.2.2
  · simp only [st 1 (by decide) (by decide), st 2 (by decide) (by decide), st 3 (by decide) (by decide), st 4 (by decide) (by decide), st 5 (by decide) (by decide), st 6 (by decide) (by decide), st 7 (by decide) (by decide), st 8 (by decide) (by decide), st 9 (by decide) (by decide), st 10 (by decide) (by decide), st 11 (by decide) (by decide), st 12 (by decide) (by decide), st 13 (by decide) (by decide), st 14 (by decide) (by decide), st 15 (by decide) (by decide), st 16 (by decide) (by decide), st 17 (by decide) (by decide), st 18 (by decide) (by decide), st 19 (by decide) (by decide), st 20 (by decide) (by decide), st 21 (by decide) (by decide), st 22 (by decide) (by decide), st 23 (by decide) (by decide)]
    exact hr
/-- the step over all sets, and the way to the lowest of the best layers -/
theorem t_146 {D : Nat} (hD : 4 ≤ D) {μ : MU} {Q : GQ} (hG : iG μ) (hL : iL μ) (hM : iGm μ) (hF : iF μ) (h : ∀ ν : MU, gFr [61, 66, 67, 68, 69, 70] μ ν → (∀ j : Int, j ≠ 5 → ν 61 j = μ 61 j) → (ν 61 5) = 1 → iFd ν → Q none g_SH ν) : gCall g_T g_F D 146 [gR 61] g_SH μ Q := by
  have hE := iL_uE hG hL
  have hp := hL.2.2.2.2.2
  have G := hG.1
  have M := hM.1
  have p33 : ∀ i : Int, 0 ≤ i → i < (μ 1 0) → 0 ≤ (μ 13) i ∧ (μ 13) i ≤ 33 := fun i i0 i1 => gLow_33 (by omega) hE hp i0 i1
  have p2 : (2 : Nat) ^ (μ 1 0).toNat ≤ 2 ^ 12 := Nat.pow_le_pow_right (by omega) (by omega)
  have p2' : ((2 ^ (μ 1 0).toNat : Nat) : Int) ≤ 4096 := by omega
  have p3 : 1 ≤ ((2 ^ (μ 1 0).toNat : Nat) : Int) := by
    have : 0 < (2 : Nat) ^ (μ 1 0).toNat := Nat.pow_pos (by omega)
    omega
  have psh : gShl 1 (μ 1 0) = ((2 ^ (μ 1 0).toNat : Nat) : Int) := by
    have := b_shl ⟨(μ 1 0).toNat, by omega⟩
    rw [← this]
    show _ = gShl 1 (((μ 1 0).toNat : Nat) : Int)
    rw [show (((μ 1 0).toNat : Nat) : Int) = (μ 1 0) by omega]
  obtain ⟨N, hN⟩ : ∃ N : Int, N = ((2 ^ (μ 1 0).toNat : Nat) : Int) := ⟨_, rfl⟩
  rw [← hN] at p2' p3 psh
  clear p2
  have fS : ∀ ν : MU, gFr [66, 67, 68, 69, 70] μ ν → ν 62 0 = (μ 1 0) ∧ ν 62 1 = (μ 1 1) ∧ hSt μ ν := fun ν hν => ⟨by rw [hν 62 (by decide)]; exact M.1, by rw [hν 62 (by decide)]; exact M.2, hν.st (by decide)⟩
  obtain ⟨d, rfl⟩ := gD (show 1 ≤ D by omega)
  by_cases hf : (μ 61 5) = 1
  · have fin := h μ gFr.rf (fun _ _ => rfl) hf (hF.2 hf)
    clear hF
    refine gC 300 [] rfl ?_
    (conv => whnf); try simp only [gO, gWe, ne_eq, Nat.reduceEqDiff, not_false_eq_true, true_or, or_true, true_and]
    repeat' (first | exact True.intro | (refine ⟨fun hb => ?_, fun hb => ?_⟩ <;> first | (exfalso; omega; done) | exact absurd True.intro hb | ((conv => whnf); try simp only [gO, gWe, ne_eq, Nat.reduceEqDiff, not_false_eq_true, true_or, or_true, true_and])) | (refine ⟨by omega, ?_⟩; (conv => whnf); try simp only [gO, gWe, ne_eq, Nat.reduceEqDiff, not_false_eq_true, true_or, or_true, true_and]) | (refine ⟨fun hb => ?_, ?_⟩ <;> first | (exfalso; omega; done) | exact absurd True.intro hb | ((conv => whnf); try simp only [gO, gWe, ne_eq, Nat.reduceEqDiff, not_false_eq_true, true_or, or_true, true_and])) | fail)
    exact fin
  · have hf0 : (μ 61 5) = 0 := by have := hF.1; omega
    clear hF hf
    have fin : ∀ (ν : MU), gFr [66, 67, 68, 69, 70] μ ν → (∀ e : Int, 0 ≤ e → e < (μ 1 1) → (ν 66) e = (μ 10) e) → (∀ i : Int, 0 ≤ i → i < (μ 1 0) → (ν 67) i = (μ 13) i) → Q none g_SH (gW ν 61 5 1) := fun ν hν hr hl => by
      have st := (fS ν hν).2.2
      refine h _ ((hν.mo (by decide)).W (by decide)) (fun j hj => ?_) (gWe _ _ _ _) ⟨fun i i0 i1 => ?_, fun e e0 e1 => ?_⟩
      · rw [gWn _ _ _ hj, hν 61 (by decide)]
      · have i1' : i < ν 1 0 := i1
        show (ν 67) i = (ν 13) i
        rw [st 1 (by decide) (by decide)] at i1'
        rw [st 13 (by decide) (by decide)]
        exact hl i i0 i1'
      · have e1' : e < ν 1 1 := e1
        show (ν 66) e = (ν 10) e
        rw [st 1 (by decide) (by decide)] at e1'
        rw [st 10 (by decide) (by decide)]
        exact hr e e0 e1'
    have loopC : ∀ (k : Nat) (ν : MU) (x3 x4 x5 x6 : GV), gFr [66, 67, 68, 69, 70] μ ν → (∀ e : Int, 0 ≤ e → e < (μ 1 1) → (ν 66) e = (μ 10) e) → cLe (μ 1 1) (μ 11) (μ 12) (μ 8) (ν 67) → (∀ i : Int, 0 ≤ i → i < (μ 1 0) → 0 ≤ (ν 67) i ∧ (ν 67) i ≤ (μ 13) i) → gTot (μ 1 1) (μ 11) (μ 12) (ν 67) < k → gG g_T g_F (gCall g_T g_F d) 0 (fun _ => 0) (g_T 146) Q 135 [gR 61, gI (μ 1 0), gI 1, x3, x4, x5, x6] [] g_SH ν 0 0 := by
      intro k
      induction k with
      | zero =>
        intro ν x3 x4 x5 x6 hν hr hl hbd ht
        have := cLe_0 hE hl
        omega
      | succ k ihk =>
        intro ν x3 x4 x5 x6 hν hr hl hbd ht
        obtain ⟨z0, z1, st⟩ := fS ν hν
        have hMr : iMr ν := hν.iMr ⟨hG, hL, hM⟩ hr
        have gets : ∀ (best common : Int) (x6 : GV), hBB (μ 1 0) (μ 1 1) (μ 11) (μ 12) (μ 8) (ν 67) best common N → -20 ≤ best → best ≤ 0 → 0 ≤ common → common < 4096 → gG g_T g_F (gCall g_T g_F d) 0 (fun _ => 0) (g_T 146) Q 147 [gR 61, gI (μ 1 0), gI 1, gI best, gI common, gI N, x6] [] g_SH ν 0 0 := by
          intro best common x6 hB b0 b1 c0 c1
          rw [hN] at hB
          have mn := hBB_m (by omega) (by omega) hE hB
          by_cases hneg : best < 0
          · have stp := c_step (by omega) (by omega) hE hl hneg mn hp (fun i i0 i1 => (hbd i i0 i1).2) (hB.2 hneg).1 (hB.2 hneg).2 (hX_01 common)
            have inn : ∀ i : Int, 0 ≤ i → i ≤ (μ 1 0) → ∀ (ρ : MU), gFr [66, 67, 68, 69, 70] μ ρ → (∀ e : Int, 0 ≤ e → e < (μ 1 1) → (ρ 66) e = (μ 10) e) → (∀ j : Int, 0 ≤ j → j < i → (ρ 67) j = (ν 67) j + hX common j) → (∀ j : Int, i ≤ j → j < (μ 1 0) → (ρ 67) j = (ν 67) j) → gG g_T g_F (gCall g_T g_F d) 0 (fun _ => 0) (g_T 146) Q 224 [gR 61, gI (μ 1 0), gI 1, gI best, gI common, gI i, x6] [] g_SH ρ 0 0 := by
              refine g_up (fun i i0 i1 ih ρ hρ hr2 h1 h2 => ?_) (fun ρ hρ hr2 h1 h2 => ?_)
              · have li := hbd i i0 i1
                have pi := p33 i i0 i1
                have xi := b_bit c0 c1 i0 (show i < 12 by omega)
                have x01 : 0 ≤ hX common i ∧ hX common i ≤ 1 := by have := hX_01 common i; omega
                have ri := h2 i (by omega) i1
                have nx : ∀ v : Int, v = (ρ 67) i + hX common i → gG g_T g_F (gCall g_T g_F d) 0 (fun _ => 0) (g_T 146) Q 224 [gR 61, gI (μ 1 0), gI 1, gI best, gI common, gI (i + 1), x6] [] g_SH (gW ρ 67 i v) 0 0 := fun v hv => by
                  refine ih _ (hρ.W (by decide)) hr2 (fun j j0 j1 => ?_) (fun j j0 j1 => ?_)
                  · show gW ρ 67 i v 67 j = _
                    by_cases hc : j = i
                    · rw [hc, gWe, hv, ri]
                    · rw [gWn _ _ _ hc]; exact h1 j j0 (by omega)
                  · show gW ρ 67 i v 67 j = _
                    rw [gWn _ _ _ (show j ≠ i by omega)]
                    exact h2 j (by omega) j1
                rw [← xi] at x01 nx
                clear h1 h2 ih
                refine gB_gG [224] 300 ?_
                (conv => whnf); try simp only [gO, gWe, ne_eq, Nat.reduceEqDiff, not_false_eq_true, true_or, or_true, true_and]
                repeat' (first | exact True.intro | (refine ⟨fun hb => ?_, fun hb => ?_⟩ <;> first | (exfalso; omega; done) | exact absurd True.intro hb | ((conv => whnf); try simp only [gO, gWe, ne_eq, Nat.reduceEqDiff, not_false_eq_true, true_or, or_true, true_and])) | (refine ⟨by omega, ?_⟩; (conv => whnf); try simp only [gO, gWe, ne_eq, Nat.reduceEqDiff, not_false_eq_true, true_or, or_true, true_and]) | (refine ⟨fun hb => ?_, ?_⟩ <;> first | (exfalso; omega; done) | exact absurd True.intro hb | ((conv => whnf); try simp only [gO, gWe, ne_eq, Nat.reduceEqDiff, not_false_eq_true, true_or, or_true, true_and])) | fail)
                exact nx _ rfl
              · have nx : gG g_T g_F (gCall g_T g_F d) 0 (fun _ => 0) (g_T 146) Q 135 [gR 61, gI (μ 1 0), gI 1, gI best, gI common, gI (μ 1 0), x6] [] g_SH ρ 0 0 := by
                  refine ihk ρ _ _ _ _ hρ hr2 (cLe_c hE (fun i i0 i1 => (h1 i i0 i1).symm) stp.1) (fun i i0 i1 => ?_) ?_
                  · have a := stp.2.1 i i0 i1
                    have b := hX_01 common i
                    have c := hbd i i0 i1
                    rw [h1 i i0 i1]
                    omega
                  · rw [gTot_c hE h1]
                    have := stp.2.2
                    omega
                clear h1 h2
                refine gB_gG [224,135] 300 ?_
                (conv => whnf); try simp only [gO, gWe, ne_eq, Nat.reduceEqDiff, not_false_eq_true, true_or, or_true, true_and]
                repeat' (first | exact True.intro | (refine ⟨fun hb => ?_, fun hb => ?_⟩ <;> first | (exfalso; omega; done) | exact absurd True.intro hb | ((conv => whnf); try simp only [gO, gWe, ne_eq, Nat.reduceEqDiff, not_false_eq_true, true_or, or_true, true_and])) | (refine ⟨by omega, ?_⟩; (conv => whnf); try simp only [gO, gWe, ne_eq, Nat.reduceEqDiff, not_false_eq_true, true_or, or_true, true_and]) | (refine ⟨fun hb => ?_, ?_⟩ <;> first | (exfalso; omega; done) | exact absurd True.intro hb | ((conv => whnf); try simp only [gO, gWe, ne_eq, Nat.reduceEqDiff, not_false_eq_true, true_or, or_true, true_and])) | fail)
                exact nx
            have nx := inn 0 (by omega) (by omega) ν hν hr (fun j _ _ => by omega) (fun j _ _ => rfl)
            clear inn stp hB mn
            refine gB_gG [147,224] 300 ?_
            (conv => whnf); try simp only [gO, gWe, ne_eq, Nat.reduceEqDiff, not_false_eq_true, true_or, or_true, true_and]
            repeat' (first | exact True.intro | (refine ⟨fun hb => ?_, fun hb => ?_⟩ <;> first | (exfalso; omega; done) | exact absurd True.intro hb | ((conv => whnf); try simp only [gO, gWe, ne_eq, Nat.reduceEqDiff, not_false_eq_true, true_or, or_true, true_and])) | (refine ⟨by omega, ?_⟩; (conv => whnf); try simp only [gO, gWe, ne_eq, Nat.reduceEqDiff, not_false_eq_true, true_or, or_true, true_and]) | (refine ⟨fun hb => ?_, ?_⟩ <;> first | (exfalso; omega; done) | exact absurd True.intro hb | ((conv => whnf); try simp only [gO, gWe, ne_eq, Nat.reduceEqDiff, not_false_eq_true, true_or, or_true, true_and])) | fail)
            exact nx
          · have hb0 : best = 0 := by omega
            rw [hb0] at mn
            have lp := c_loc hE hl (fun i i0 i1 => (hbd i i0 i1).1) mn hp (fun i i0 i1 => (hbd i i0 i1).2)
            have f := fin ν hν hr lp
            clear hB mn lp
            by_cases hn0 : 0 < (μ 1 0)
            · refine gB_gG [147] 300 ?_
              (conv => whnf); try simp only [gO, gWe, ne_eq, Nat.reduceEqDiff, not_false_eq_true, true_or, or_true, true_and]
              repeat' (first | exact True.intro | (refine ⟨fun hb => ?_, fun hb => ?_⟩ <;> first | (exfalso; omega; done) | exact absurd True.intro hb | ((conv => whnf); try simp only [gO, gWe, ne_eq, Nat.reduceEqDiff, not_false_eq_true, true_or, or_true, true_and])) | (refine ⟨by omega, ?_⟩; (conv => whnf); try simp only [gO, gWe, ne_eq, Nat.reduceEqDiff, not_false_eq_true, true_or, or_true, true_and]) | (refine ⟨fun hb => ?_, ?_⟩ <;> first | (exfalso; omega; done) | exact absurd True.intro hb | ((conv => whnf); try simp only [gO, gWe, ne_eq, Nat.reduceEqDiff, not_false_eq_true, true_or, or_true, true_and])) | fail)
              exact f
            · refine gB_gG [147] 300 ?_
              (conv => whnf); try simp only [gO, gWe, ne_eq, Nat.reduceEqDiff, not_false_eq_true, true_or, or_true, true_and]
              repeat' (first | exact True.intro | (refine ⟨fun hb => ?_, fun hb => ?_⟩ <;> first | (exfalso; omega; done) | exact absurd True.intro hb | ((conv => whnf); try simp only [gO, gWe, ne_eq, Nat.reduceEqDiff, not_false_eq_true, true_or, or_true, true_and])) | (refine ⟨by omega, ?_⟩; (conv => whnf); try simp only [gO, gWe, ne_eq, Nat.reduceEqDiff, not_false_eq_true, true_or, or_true, true_and]) | (refine ⟨fun hb => ?_, ?_⟩ <;> first | (exfalso; omega; done) | exact absurd True.intro hb | ((conv => whnf); try simp only [gO, gWe, ne_eq, Nat.reduceEqDiff, not_false_eq_true, true_or, or_true, true_and])) | fail)
              exact f
        have key : ∀ s : Int, 1 ≤ s → s ≤ N → ∀ (best common : Int) (x6 : GV), hBB (μ 1 0) (μ 1 1) (μ 11) (μ 12) (μ 8) (ν 67) best common s → -20 ≤ best → best ≤ 0 → 0 ≤ common → common < 4096 → gG g_T g_F (gCall g_T g_F d) 0 (fun _ => 0) (g_T 146) Q 147 [gR 61, gI (μ 1 0), gI 1, gI best, gI common, gI s, x6] [] g_SH ν 0 0 := by
          refine g_up (fun s s0 s1 ih best common x6 hB b0 b1 c0 c1 => ?_) gets
          have cb := cCh_b (m := (μ 1 1)) (up := (μ 11)) (lo := (μ 12)) (X := hX s) (by omega) (by omega) (hX_01 s)
          refine gB_gG [147] 300 ?_
          (conv => whnf); try simp only [gO, gWe, ne_eq, Nat.reduceEqDiff, not_false_eq_true, true_or, or_true, true_and]
          repeat' (first | exact True.intro | (refine ⟨fun hb => ?_, fun hb => ?_⟩ <;> first | (exfalso; omega; done) | exact absurd True.intro hb | ((conv => whnf); try simp only [gO, gWe, ne_eq, Nat.reduceEqDiff, not_false_eq_true, true_or, or_true, true_and])) | (refine ⟨by omega, ?_⟩; (conv => whnf); try simp only [gO, gWe, ne_eq, Nat.reduceEqDiff, not_false_eq_true, true_or, or_true, true_and]) | (refine ⟨fun hb => ?_, ?_⟩ <;> first | (exfalso; omega; done) | exact absurd True.intro hb | ((conv => whnf); try simp only [gO, gWe, ne_eq, Nat.reduceEqDiff, not_false_eq_true, true_or, or_true, true_and])) | fail)
          refine t_145 (by omega) hMr (by omega) (by omega) (fun i i0 i1 => ?_) (fun hk => ?_) (fun hn => ?_)
          · rw [st 1 (by decide) (by decide)] at i1
            have a := hbd i i0 i1
            have b := p33 i i0 i1
            omega
          · simp only [st 1 (by decide) (by decide), st 2 (by decide) (by decide), st 3 (by decide) (by decide), st 4 (by decide) (by decide), st 5 (by decide) (by decide), st 6 (by decide) (by decide), st 7 (by decide) (by decide), st 8 (by decide) (by decide), st 9 (by decide) (by decide), st 10 (by decide) (by decide), st 11 (by decide) (by decide), st 12 (by decide) (by decide), st 13 (by decide) (by decide), st 14 (by decide) (by decide), st 15 (by decide) (by decide), st 16 (by decide) (by decide), st 17 (by decide) (by decide), st 18 (by decide) (by decide), st 19 (by decide) (by decide), st 20 (by decide) (by decide), st 21 (by decide) (by decide), st 22 (by decide) (by decide), st 23 (by decide) (by decide)] at hk ⊢
            by_cases v1 : cCh (μ 1 1) (μ 11) (μ 12) (hX s) < best
            · have nx := ih _ s (gI (cCh (μ 1 1) (μ 11) (μ 12) (hX s))) (hBB_l s0 hB hk v1) (by omega) (by omega) (by omega) (by omega)
              clear ih hB
              (conv => whnf); try simp only [gO, gWe, ne_eq, Nat.reduceEqDiff, not_false_eq_true, true_or, or_true, true_and]
              repeat' (first | exact True.intro | (refine ⟨fun hb => ?_, fun hb => ?_⟩ <;> first | (exfalso; omega; done) | exact absurd True.intro hb | ((conv => whnf); try simp only [gO, gWe, ne_eq, Nat.reduceEqDiff, not_false_eq_true, true_or, or_true, true_and])) | (refine ⟨by omega, ?_⟩; (conv => whnf); try simp only [gO, gWe, ne_eq, Nat.reduceEqDiff, not_false_eq_true, true_or, or_true, true_and]) | (refine ⟨fun hb => ?_, ?_⟩ <;> first | (exfalso; omega; done) | exact absurd True.intro hb | ((conv => whnf); try simp only [gO, gWe, ne_eq, Nat.reduceEqDiff, not_false_eq_true, true_or, or_true, true_and])) | fail)
              exact nx
            · by_cases v2 : cCh (μ 1 1) (μ 11) (μ 12) (hX s) = best
              · have an := (b_andX (i := 0) c0 c1 (show 0 ≤ s by omega) (by omega)).1
                have nx := ih best (gAnd common s) (gI (cCh (μ 1 1) (μ 11) (μ 12) (hX s))) (hBB_e s0 (by omega) c0 c1 hB hk v2) (by omega) (by omega) (by omega) (by omega)
                clear ih hB
                (conv => whnf); try simp only [gO, gWe, ne_eq, Nat.reduceEqDiff, not_false_eq_true, true_or, or_true, true_and]
                repeat' (first | exact True.intro | (refine ⟨fun hb => ?_, fun hb => ?_⟩ <;> first | (exfalso; omega; done) | exact absurd True.intro hb | ((conv => whnf); try simp only [gO, gWe, ne_eq, Nat.reduceEqDiff, not_false_eq_true, true_or, or_true, true_and])) | (refine ⟨by omega, ?_⟩; (conv => whnf); try simp only [gO, gWe, ne_eq, Nat.reduceEqDiff, not_false_eq_true, true_or, or_true, true_and]) | (refine ⟨fun hb => ?_, ?_⟩ <;> first | (exfalso; omega; done) | exact absurd True.intro hb | ((conv => whnf); try simp only [gO, gWe, ne_eq, Nat.reduceEqDiff, not_false_eq_true, true_or, or_true, true_and])) | fail)
                exact nx
              · have nx := ih best common (gI (cCh (μ 1 1) (μ 11) (μ 12) (hX s))) (hBB_g hB (fun _ => by omega)) (by omega) (by omega) (by omega) (by omega)
                clear ih hB
                (conv => whnf); try simp only [gO, gWe, ne_eq, Nat.reduceEqDiff, not_false_eq_true, true_or, or_true, true_and]
                repeat' (first | exact True.intro | (refine ⟨fun hb => ?_, fun hb => ?_⟩ <;> first | (exfalso; omega; done) | exact absurd True.intro hb | ((conv => whnf); try simp only [gO, gWe, ne_eq, Nat.reduceEqDiff, not_false_eq_true, true_or, or_true, true_and])) | (refine ⟨by omega, ?_⟩; (conv => whnf); try simp only [gO, gWe, ne_eq, Nat.reduceEqDiff, not_false_eq_true, true_or, or_true, true_and]) | (refine ⟨fun hb => ?_, ?_⟩ <;> first | (exfalso; omega; done) | exact absurd True.intro hb | ((conv => whnf); try simp only [gO, gWe, ne_eq, Nat.reduceEqDiff, not_false_eq_true, true_or, or_true, true_and])) | fail)
                exact nx
          · simp only [st 1 (by decide) (by decide), st 2 (by decide) (by decide), st 3 (by decide) (by decide), st 4 (by decide) (by decide), st 5 (by decide) (by decide), st 6 (by decide) (by decide), st 7 (by decide) (by decide), st 8 (by decide) (by decide), st 9 (by decide) (by decide), st 10 (by decide) (by decide), st 11 (by decide) (by decide), st 12 (by decide) (by decide), st 13 (by decide) (by decide), st 14 (by decide) (by decide), st 15 (by decide) (by decide), st 16 (by decide) (by decide), st 17 (by decide) (by decide), st 18 (by decide) (by decide), st 19 (by decide) (by decide), st 20 (by decide) (by decide), st 21 (by decide) (by decide), st 22 (by decide) (by decide), st 23 (by decide) (by decide)] at hn
            have nx := ih best common (gI 100) (hBB_g hB (fun h => absurd h hn)) (by omega) (by omega) (by omega) (by omega)
            clear ih hB
            (conv => whnf); try simp only [gO, gWe, ne_eq, Nat.reduceEqDiff, not_false_eq_true, true_or, or_true, true_and]
            repeat' (first | exact True.intro | (refine ⟨fun hb => ?_, fun hb => ?_⟩ <;> first | (exfalso; omega; done) | exact absurd True.intro hb | ((conv => whnf); try simp only [gO, gWe, ne_eq, Nat.reduceEqDiff, not_false_eq_true, true_or, or_true, true_and])) | (refine ⟨by omega, ?_⟩; (conv => whnf); try simp only [gO, gWe, ne_eq, Nat.reduceEqDiff, not_false_eq_true, true_or, or_true, true_and]) | (refine ⟨fun hb => ?_, ?_⟩ <;> first | (exfalso; omega; done) | exact absurd True.intro hb | ((conv => whnf); try simp only [gO, gWe, ne_eq, Nat.reduceEqDiff, not_false_eq_true, true_or, or_true, true_and])) | fail)
            exact nx
        have nx := key 1 (by omega) p3 0 0 x6 hBB_0 (by omega) (by omega) (by omega) (by omega)
        clear key
        refine gB_gG [135,147] 300 ?_
        (conv => whnf); try simp only [gO, gWe, ne_eq, Nat.reduceEqDiff, not_false_eq_true, true_or, or_true, true_and]
        repeat' (first | exact True.intro | (refine ⟨fun hb => ?_, fun hb => ?_⟩ <;> first | (exfalso; omega; done) | exact absurd True.intro hb | ((conv => whnf); try simp only [gO, gWe, ne_eq, Nat.reduceEqDiff, not_false_eq_true, true_or, or_true, true_and])) | (refine ⟨by omega, ?_⟩; (conv => whnf); try simp only [gO, gWe, ne_eq, Nat.reduceEqDiff, not_false_eq_true, true_or, or_true, true_and]) | (refine ⟨fun hb => ?_, ?_⟩ <;> first | (exfalso; omega; done) | exact absurd True.intro hb | ((conv => whnf); try simp only [gO, gWe, ne_eq, Nat.reduceEqDiff, not_false_eq_true, true_or, or_true, true_and])) | fail)
        exact nx
    have loopB : ∀ r : Int, 0 ≤ r → r ≤ (μ 1 0) → ∀ (ν : MU) (x3 x4 x5 x6 : GV), gFr [66, 67, 68, 69, 70] μ ν → (∀ e : Int, 0 ≤ e → e < (μ 1 1) → (ν 66) e = (μ 10) e) → cRo (μ 1 0) (μ 1 1) (μ 11) (μ 12) (μ 8) (μ 13) (ν 67) r 0 → gG g_T g_F (gCall g_T g_F d) 0 (fun _ => 0) (g_T 146) Q 41 [gR 61, gI (μ 1 0), gI r, x3, x4, x5, x6] [] g_SH ν 0 0 := by
      refine g_up (fun r r0 r1 ih ν x3 x4 x5 x6 hν hr hc => ?_) (fun ν x3 x4 x5 x6 hν hr hc => ?_)
      · have inn : ∀ c : Int, 0 ≤ c → c ≤ (μ 1 1) → ∀ (ν : MU) (x4 : GV), gFr [66, 67, 68, 69, 70] μ ν → (∀ e : Int, 0 ≤ e → e < (μ 1 1) → (ν 66) e = (μ 10) e) → cRo (μ 1 0) (μ 1 1) (μ 11) (μ 12) (μ 8) (μ 13) (ν 67) r c → gG g_T g_F (gCall g_T g_F d) 0 (fun _ => 0) (g_T 146) Q 48 [gR 61, gI (μ 1 0), gI r, gI c, x4, x5, x6] [] g_SH ν 0 0 := by
          refine g_up (fun c c0 c1 ihc ν x4 hν hr hc => ?_) (fun ν x4 hν hr hc => ?_)
          · obtain ⟨z0, z1, st⟩ := fS ν hν
            have hMr : iMr ν := hν.iMr ⟨hG, hL, hM⟩ hr
            have ee := hE c c0 c1
            have gm : ν 62 (29 + 5 * c + 4) = (μ 8) c := by rw [hν 62 (by decide)]; exact (hM.2.2 c c0 c1).2.2.2.2
            have lu := hc.1 _ ee.1.1 ee.1.2
            have ll := hc.1 _ ee.2.1.1 ee.2.1.2
            have pu := p33 _ ee.1.1 ee.1.2
            have pl := p33 _ ee.2.1.1 ee.2.1.2
            have s1 := cRo_s hE hp c0 c1 hc
            have nx : ∀ (v : Int) (y : GV), v = (if (ν 67) ((μ 12) c) < (ν 67) ((μ 11) c) + (μ 8) c then (ν 67) ((μ 11) c) + (μ 8) c else (ν 67) ((μ 12) c)) → gG g_T g_F (gCall g_T g_F d) 0 (fun _ => 0) (g_T 146) Q 48 [gR 61, gI (μ 1 0), gI r, gI (c + 1), y, x5, x6] [] g_SH (gW ν 67 ((μ 12) c) v) 0 0 := fun v y hv => by
              refine ihc _ y (hν.W (by decide)) hr ?_
              show cRo _ _ _ _ _ _ (gW ν 67 ((μ 12) c) v 67) _ _
              rw [gW_up, hv]
              exact s1
            have c1' : c < (ν 1 1) := by rw [st 1 (by decide) (by decide)]; exact c1
            have fu : (ν 11) c = (μ 11) c := by rw [st 11 (by decide) (by decide)]
            have fl : (ν 12) c = (μ 12) c := by rw [st 12 (by decide) (by decide)]
            have ee1 := ee.1
            have ee2 := ee.2.1
            have ee3 := ee.2.2.2
            clear s1 ihc hc ee
            by_cases hlt : (ν 67) ((μ 12) c) < (ν 67) ((μ 11) c) + (μ 8) c
            · rw [if_pos hlt] at nx
              refine gB_gG [48] 300 ?_
              (conv => whnf); try simp only [gO, gWe, ne_eq, Nat.reduceEqDiff, not_false_eq_true, true_or, or_true, true_and]
              repeat' (first | exact True.intro | (refine ⟨fun hb => ?_, fun hb => ?_⟩ <;> first | (exfalso; omega; done) | exact absurd True.intro hb | ((conv => whnf); try simp only [gO, gWe, ne_eq, Nat.reduceEqDiff, not_false_eq_true, true_or, or_true, true_and])) | (refine ⟨by omega, ?_⟩; (conv => whnf); try simp only [gO, gWe, ne_eq, Nat.reduceEqDiff, not_false_eq_true, true_or, or_true, true_and]) | (refine ⟨fun hb => ?_, ?_⟩ <;> first | (exfalso; omega; done) | exact absurd True.intro hb | ((conv => whnf); try simp only [gO, gWe, ne_eq, Nat.reduceEqDiff, not_false_eq_true, true_or, or_true, true_and])) | fail)
              refine t_142r (by omega) hMr c0 c1' ?_
              rw [fu]
              (conv => whnf); try simp only [gO, gWe, ne_eq, Nat.reduceEqDiff, not_false_eq_true, true_or, or_true, true_and]
              repeat' (first | exact True.intro | (refine ⟨fun hb => ?_, fun hb => ?_⟩ <;> first | (exfalso; omega; done) | exact absurd True.intro hb | ((conv => whnf); try simp only [gO, gWe, ne_eq, Nat.reduceEqDiff, not_false_eq_true, true_or, or_true, true_and])) | (refine ⟨by omega, ?_⟩; (conv => whnf); try simp only [gO, gWe, ne_eq, Nat.reduceEqDiff, not_false_eq_true, true_or, or_true, true_and]) | (refine ⟨fun hb => ?_, ?_⟩ <;> first | (exfalso; omega; done) | exact absurd True.intro hb | ((conv => whnf); try simp only [gO, gWe, ne_eq, Nat.reduceEqDiff, not_false_eq_true, true_or, or_true, true_and])) | fail)
              refine t_127 (by omega) ?_ ?_ ?_ <;> try omega
              (conv => whnf); try simp only [gO, gWe, ne_eq, Nat.reduceEqDiff, not_false_eq_true, true_or, or_true, true_and]
              repeat' (first | exact True.intro | (refine ⟨fun hb => ?_, fun hb => ?_⟩ <;> first | (exfalso; omega; done) | exact absurd True.intro hb | ((conv => whnf); try simp only [gO, gWe, ne_eq, Nat.reduceEqDiff, not_false_eq_true, true_or, or_true, true_and])) | (refine ⟨by omega, ?_⟩; (conv => whnf); try simp only [gO, gWe, ne_eq, Nat.reduceEqDiff, not_false_eq_true, true_or, or_true, true_and]) | (refine ⟨fun hb => ?_, ?_⟩ <;> first | (exfalso; omega; done) | exact absurd True.intro hb | ((conv => whnf); try simp only [gO, gWe, ne_eq, Nat.reduceEqDiff, not_false_eq_true, true_or, or_true, true_and])) | fail)
              refine t_143r (by omega) hMr c0 c1' ?_
              rw [fl]
              (conv => whnf); try simp only [gO, gWe, ne_eq, Nat.reduceEqDiff, not_false_eq_true, true_or, or_true, true_and]
              repeat' (first | exact True.intro | (refine ⟨fun hb => ?_, fun hb => ?_⟩ <;> first | (exfalso; omega; done) | exact absurd True.intro hb | ((conv => whnf); try simp only [gO, gWe, ne_eq, Nat.reduceEqDiff, not_false_eq_true, true_or, or_true, true_and])) | (refine ⟨by omega, ?_⟩; (conv => whnf); try simp only [gO, gWe, ne_eq, Nat.reduceEqDiff, not_false_eq_true, true_or, or_true, true_and]) | (refine ⟨fun hb => ?_, ?_⟩ <;> first | (exfalso; omega; done) | exact absurd True.intro hb | ((conv => whnf); try simp only [gO, gWe, ne_eq, Nat.reduceEqDiff, not_false_eq_true, true_or, or_true, true_and])) | fail)
              refine t_143r (by omega) hMr c0 c1' ?_
              rw [fl]
              (conv => whnf); try simp only [gO, gWe, ne_eq, Nat.reduceEqDiff, not_false_eq_true, true_or, or_true, true_and]
              repeat' (first | exact True.intro | (refine ⟨fun hb => ?_, fun hb => ?_⟩ <;> first | (exfalso; omega; done) | exact absurd True.intro hb | ((conv => whnf); try simp only [gO, gWe, ne_eq, Nat.reduceEqDiff, not_false_eq_true, true_or, or_true, true_and])) | (refine ⟨by omega, ?_⟩; (conv => whnf); try simp only [gO, gWe, ne_eq, Nat.reduceEqDiff, not_false_eq_true, true_or, or_true, true_and]) | (refine ⟨fun hb => ?_, ?_⟩ <;> first | (exfalso; omega; done) | exact absurd True.intro hb | ((conv => whnf); try simp only [gO, gWe, ne_eq, Nat.reduceEqDiff, not_false_eq_true, true_or, or_true, true_and])) | fail)
              exact nx _ _ (by omega)
            · rw [if_neg hlt] at nx
              refine gB_gG [48] 300 ?_
              (conv => whnf); try simp only [gO, gWe, ne_eq, Nat.reduceEqDiff, not_false_eq_true, true_or, or_true, true_and]
              repeat' (first | exact True.intro | (refine ⟨fun hb => ?_, fun hb => ?_⟩ <;> first | (exfalso; omega; done) | exact absurd True.intro hb | ((conv => whnf); try simp only [gO, gWe, ne_eq, Nat.reduceEqDiff, not_false_eq_true, true_or, or_true, true_and])) | (refine ⟨by omega, ?_⟩; (conv => whnf); try simp only [gO, gWe, ne_eq, Nat.reduceEqDiff, not_false_eq_true, true_or, or_true, true_and]) | (refine ⟨fun hb => ?_, ?_⟩ <;> first | (exfalso; omega; done) | exact absurd True.intro hb | ((conv => whnf); try simp only [gO, gWe, ne_eq, Nat.reduceEqDiff, not_false_eq_true, true_or, or_true, true_and])) | fail)
              refine t_142r (by omega) hMr c0 c1' ?_
              rw [fu]
              (conv => whnf); try simp only [gO, gWe, ne_eq, Nat.reduceEqDiff, not_false_eq_true, true_or, or_true, true_and]
              repeat' (first | exact True.intro | (refine ⟨fun hb => ?_, fun hb => ?_⟩ <;> first | (exfalso; omega; done) | exact absurd True.intro hb | ((conv => whnf); try simp only [gO, gWe, ne_eq, Nat.reduceEqDiff, not_false_eq_true, true_or, or_true, true_and])) | (refine ⟨by omega, ?_⟩; (conv => whnf); try simp only [gO, gWe, ne_eq, Nat.reduceEqDiff, not_false_eq_true, true_or, or_true, true_and]) | (refine ⟨fun hb => ?_, ?_⟩ <;> first | (exfalso; omega; done) | exact absurd True.intro hb | ((conv => whnf); try simp only [gO, gWe, ne_eq, Nat.reduceEqDiff, not_false_eq_true, true_or, or_true, true_and])) | fail)
              refine t_127 (by omega) ?_ ?_ ?_ <;> try omega
              (conv => whnf); try simp only [gO, gWe, ne_eq, Nat.reduceEqDiff, not_false_eq_true, true_or, or_true, true_and]
              repeat' (first | exact True.intro | (refine ⟨fun hb => ?_, fun hb => ?_⟩ <;> first | (exfalso; omega; done) | exact absurd True.intro hb | ((conv => whnf); try simp only [gO, gWe, ne_eq, Nat.reduceEqDiff, not_false_eq_true, true_or, or_true, true_and])) | (refine ⟨by omega, ?_⟩; (conv => whnf); try simp only [gO, gWe, ne_eq, Nat.reduceEqDiff, not_false_eq_true, true_or, or_true, true_and]) | (refine ⟨fun hb => ?_, ?_⟩ <;> first | (exfalso; omega; done) | exact absurd True.intro hb | ((conv => whnf); try simp only [gO, gWe, ne_eq, Nat.reduceEqDiff, not_false_eq_true, true_or, or_true, true_and])) | fail)
              refine t_143r (by omega) hMr c0 c1' ?_
              rw [fl]
              (conv => whnf); try simp only [gO, gWe, ne_eq, Nat.reduceEqDiff, not_false_eq_true, true_or, or_true, true_and]
              repeat' (first | exact True.intro | (refine ⟨fun hb => ?_, fun hb => ?_⟩ <;> first | (exfalso; omega; done) | exact absurd True.intro hb | ((conv => whnf); try simp only [gO, gWe, ne_eq, Nat.reduceEqDiff, not_false_eq_true, true_or, or_true, true_and])) | (refine ⟨by omega, ?_⟩; (conv => whnf); try simp only [gO, gWe, ne_eq, Nat.reduceEqDiff, not_false_eq_true, true_or, or_true, true_and]) | (refine ⟨fun hb => ?_, ?_⟩ <;> first | (exfalso; omega; done) | exact absurd True.intro hb | ((conv => whnf); try simp only [gO, gWe, ne_eq, Nat.reduceEqDiff, not_false_eq_true, true_or, or_true, true_and])) | fail)
              refine t_143r (by omega) hMr c0 c1' ?_
              rw [fl]
              (conv => whnf); try simp only [gO, gWe, ne_eq, Nat.reduceEqDiff, not_false_eq_true, true_or, or_true, true_and]
              repeat' (first | exact True.intro | (refine ⟨fun hb => ?_, fun hb => ?_⟩ <;> first | (exfalso; omega; done) | exact absurd True.intro hb | ((conv => whnf); try simp only [gO, gWe, ne_eq, Nat.reduceEqDiff, not_false_eq_true, true_or, or_true, true_and])) | (refine ⟨by omega, ?_⟩; (conv => whnf); try simp only [gO, gWe, ne_eq, Nat.reduceEqDiff, not_false_eq_true, true_or, or_true, true_and]) | (refine ⟨fun hb => ?_, ?_⟩ <;> first | (exfalso; omega; done) | exact absurd True.intro hb | ((conv => whnf); try simp only [gO, gWe, ne_eq, Nat.reduceEqDiff, not_false_eq_true, true_or, or_true, true_and])) | fail)
              refine t_143r (by omega) hMr c0 c1' ?_
              rw [fl]
              (conv => whnf); try simp only [gO, gWe, ne_eq, Nat.reduceEqDiff, not_false_eq_true, true_or, or_true, true_and]
              repeat' (first | exact True.intro | (refine ⟨fun hb => ?_, fun hb => ?_⟩ <;> first | (exfalso; omega; done) | exact absurd True.intro hb | ((conv => whnf); try simp only [gO, gWe, ne_eq, Nat.reduceEqDiff, not_false_eq_true, true_or, or_true, true_and])) | (refine ⟨by omega, ?_⟩; (conv => whnf); try simp only [gO, gWe, ne_eq, Nat.reduceEqDiff, not_false_eq_true, true_or, or_true, true_and]) | (refine ⟨fun hb => ?_, ?_⟩ <;> first | (exfalso; omega; done) | exact absurd True.intro hb | ((conv => whnf); try simp only [gO, gWe, ne_eq, Nat.reduceEqDiff, not_false_eq_true, true_or, or_true, true_and])) | fail)
              exact nx _ _ rfl
          · obtain ⟨z0, z1, st⟩ := fS ν hν
            have nx := ih ν (gI (μ 1 1)) x4 x5 x6 hν hr (cRo_n hc)
            clear hc ih
            refine gB_gG [48,41] 300 ?_
            (conv => whnf); try simp only [gO, gWe, ne_eq, Nat.reduceEqDiff, not_false_eq_true, true_or, or_true, true_and]
            repeat' (first | exact True.intro | (refine ⟨fun hb => ?_, fun hb => ?_⟩ <;> first | (exfalso; omega; done) | exact absurd True.intro hb | ((conv => whnf); try simp only [gO, gWe, ne_eq, Nat.reduceEqDiff, not_false_eq_true, true_or, or_true, true_and])) | (refine ⟨by omega, ?_⟩; (conv => whnf); try simp only [gO, gWe, ne_eq, Nat.reduceEqDiff, not_false_eq_true, true_or, or_true, true_and]) | (refine ⟨fun hb => ?_, ?_⟩ <;> first | (exfalso; omega; done) | exact absurd True.intro hb | ((conv => whnf); try simp only [gO, gWe, ne_eq, Nat.reduceEqDiff, not_false_eq_true, true_or, or_true, true_and])) | fail)
            exact nx
        have nx := inn 0 (by omega) (by omega) ν x4 hν hr hc
        clear inn hc ih
        refine gB_gG [41,48] 300 ?_
        (conv => whnf); try simp only [gO, gWe, ne_eq, Nat.reduceEqDiff, not_false_eq_true, true_or, or_true, true_and]
        repeat' (first | exact True.intro | (refine ⟨fun hb => ?_, fun hb => ?_⟩ <;> first | (exfalso; omega; done) | exact absurd True.intro hb | ((conv => whnf); try simp only [gO, gWe, ne_eq, Nat.reduceEqDiff, not_false_eq_true, true_or, or_true, true_and])) | (refine ⟨by omega, ?_⟩; (conv => whnf); try simp only [gO, gWe, ne_eq, Nat.reduceEqDiff, not_false_eq_true, true_or, or_true, true_and]) | (refine ⟨fun hb => ?_, ?_⟩ <;> first | (exfalso; omega; done) | exact absurd True.intro hb | ((conv => whnf); try simp only [gO, gWe, ne_eq, Nat.reduceEqDiff, not_false_eq_true, true_or, or_true, true_and])) | fail)
        exact nx
      · have hl := cRo_e (by omega) hc
        have nx := loopC ((gTot (μ 1 1) (μ 11) (μ 12) (ν 67)).toNat + 1) ν x3 x4 x5 x6 hν hr hl hc.1 (by have := cLe_0 hE hl; omega)
        clear hc hl loopC
        refine gB_gG [41,135] 300 ?_
        (conv => whnf); try simp only [gO, gWe, ne_eq, Nat.reduceEqDiff, not_false_eq_true, true_or, or_true, true_and]
        repeat' (first | exact True.intro | (refine ⟨fun hb => ?_, fun hb => ?_⟩ <;> first | (exfalso; omega; done) | exact absurd True.intro hb | ((conv => whnf); try simp only [gO, gWe, ne_eq, Nat.reduceEqDiff, not_false_eq_true, true_or, or_true, true_and])) | (refine ⟨by omega, ?_⟩; (conv => whnf); try simp only [gO, gWe, ne_eq, Nat.reduceEqDiff, not_false_eq_true, true_or, or_true, true_and]) | (refine ⟨fun hb => ?_, ?_⟩ <;> first | (exfalso; omega; done) | exact absurd True.intro hb | ((conv => whnf); try simp only [gO, gWe, ne_eq, Nat.reduceEqDiff, not_false_eq_true, true_or, or_true, true_and])) | fail)
        exact nx
    have loopA : ∀ i : Int, 0 ≤ i → i ≤ (μ 1 0) → ∀ (ν : MU) (x3 x4 x5 x6 : GV), gFr [66, 67, 68, 69, 70] μ ν → (∀ e : Int, 0 ≤ e → e < (μ 1 1) → (ν 66) e = (μ 10) e) → (∀ j : Int, 0 ≤ j → j < i → (ν 67) j = 0) → gG g_T g_F (gCall g_T g_F d) 0 (fun _ => 0) (g_T 146) Q 21 [gR 61, gI (μ 1 0), gI i, x3, x4, x5, x6] [] g_SH ν 0 0 := by
      refine g_up (fun i i0 i1 ih ν x3 x4 x5 x6 hν hr hz => ?_) (fun ν x3 x4 x5 x6 hν hr hz => ?_)
      · have nx : gG g_T g_F (gCall g_T g_F d) 0 (fun _ => 0) (g_T 146) Q 21 [gR 61, gI (μ 1 0), gI (i + 1), x3, x4, x5, x6] [] g_SH (gW ν 67 i 0) 0 0 := ih _ x3 x4 x5 x6 (hν.W (by decide)) hr (fun j j0 j1 => by
          show gW ν 67 i 0 67 j = 0
          by_cases hc : j = i
          · rw [hc]; exact gWe _ _ _ _
          · rw [gWn _ _ _ hc]; exact hz j j0 (by omega))
        clear ih hz
        refine gB_gG [21] 300 ?_
        (conv => whnf); try simp only [gO, gWe, ne_eq, Nat.reduceEqDiff, not_false_eq_true, true_or, or_true, true_and]
        repeat' (first | exact True.intro | (refine ⟨fun hb => ?_, fun hb => ?_⟩ <;> first | (exfalso; omega; done) | exact absurd True.intro hb | ((conv => whnf); try simp only [gO, gWe, ne_eq, Nat.reduceEqDiff, not_false_eq_true, true_or, or_true, true_and])) | (refine ⟨by omega, ?_⟩; (conv => whnf); try simp only [gO, gWe, ne_eq, Nat.reduceEqDiff, not_false_eq_true, true_or, or_true, true_and]) | (refine ⟨fun hb => ?_, ?_⟩ <;> first | (exfalso; omega; done) | exact absurd True.intro hb | ((conv => whnf); try simp only [gO, gWe, ne_eq, Nat.reduceEqDiff, not_false_eq_true, true_or, or_true, true_and])) | fail)
        exact nx
      · have nx := loopB 0 (by omega) (by omega) ν x3 x4 x5 x6 hν hr (cRo_0 hE hp hz)
        clear loopB hz loopC
        refine gB_gG [21,41] 300 ?_
        (conv => whnf); try simp only [gO, gWe, ne_eq, Nat.reduceEqDiff, not_false_eq_true, true_or, or_true, true_and]
        repeat' (first | exact True.intro | (refine ⟨fun hb => ?_, fun hb => ?_⟩ <;> first | (exfalso; omega; done) | exact absurd True.intro hb | ((conv => whnf); try simp only [gO, gWe, ne_eq, Nat.reduceEqDiff, not_false_eq_true, true_or, or_true, true_and])) | (refine ⟨by omega, ?_⟩; (conv => whnf); try simp only [gO, gWe, ne_eq, Nat.reduceEqDiff, not_false_eq_true, true_or, or_true, true_and]) | (refine ⟨fun hb => ?_, ?_⟩ <;> first | (exfalso; omega; done) | exact absurd True.intro hb | ((conv => whnf); try simp only [gO, gWe, ne_eq, Nat.reduceEqDiff, not_false_eq_true, true_or, or_true, true_and])) | fail)
        exact nx
    clear loopB loopC
    refine gC 300 [21] rfl ?_
    (conv => whnf); try simp only [gO, gWe, ne_eq, Nat.reduceEqDiff, not_false_eq_true, true_or, or_true, true_and]
    repeat' (first | exact True.intro | (refine ⟨fun hb => ?_, fun hb => ?_⟩ <;> first | (exfalso; omega; done) | exact absurd True.intro hb | ((conv => whnf); try simp only [gO, gWe, ne_eq, Nat.reduceEqDiff, not_false_eq_true, true_or, or_true, true_and])) | (refine ⟨by omega, ?_⟩; (conv => whnf); try simp only [gO, gWe, ne_eq, Nat.reduceEqDiff, not_false_eq_true, true_or, or_true, true_and]) | (refine ⟨fun hb => ?_, ?_⟩ <;> first | (exfalso; omega; done) | exact absurd True.intro hb | ((conv => whnf); try simp only [gO, gWe, ne_eq, Nat.reduceEqDiff, not_false_eq_true, true_or, or_true, true_and])) | fail)
    refine t_141 (by omega) hG hM hL.1 (fun ν₁ hν₁ hr₁ => ?_)
    have z := (fS ν₁ (hν₁.mo (by decide))).1
    (conv => whnf); try simp only [gO, gWe, ne_eq, Nat.reduceEqDiff, not_false_eq_true, true_or, or_true, true_and]
    repeat' (first | exact True.intro | (refine ⟨fun hb => ?_, fun hb => ?_⟩ <;> first | (exfalso; omega; done) | exact absurd True.intro hb | ((conv => whnf); try simp only [gO, gWe, ne_eq, Nat.reduceEqDiff, not_false_eq_true, true_or, or_true, true_and])) | (refine ⟨by omega, ?_⟩; (conv => whnf); try simp only [gO, gWe, ne_eq, Nat.reduceEqDiff, not_false_eq_true, true_or, or_true, true_and]) | (refine ⟨fun hb => ?_, ?_⟩ <;> first | (exfalso; omega; done) | exact absurd True.intro hb | ((conv => whnf); try simp only [gO, gWe, ne_eq, Nat.reduceEqDiff, not_false_eq_true, true_or, or_true, true_and])) | fail)
    rw [z]
    exact loopA 0 (by omega) (by omega) ν₁ _ _ _ _ (hν₁.mo (by decide)) hr₁ (fun j _ _ => by omega)
