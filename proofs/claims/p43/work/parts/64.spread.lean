variable {sN : Int} {sX : Int → Int}
/-! the cases spread and straight -/
def xSh (μ : MU) (e y : Int) : Int := gAbs ((μ 34) (xOn μ e y) - (μ 34) (xOn μ e (y + 1)))
def xSp (μ : MU) (e n : Int) : Int := gSum (fun j => xSh μ e ((μ 14) e + j)) n.toNat
def xStr (μ : MU) (e n : Int) : Int := gSum (fun j => if xSh μ e ((μ 14) e + j) = 0 then 1 else 0) n.toNat
def xSpr (μ : MU) : Int := gSum (fun e => xSp μ e ((μ 15) e - (μ 14) e)) (μ 1 1).toNat
theorem xSh_b {μ : MU} (hG : iG μ) (hL : iL μ) (hN : iN μ) (hX : ∀ v : Int, 0 ≤ v → v < (μ 19 2) → 0 ≤ (μ 34) v ∧ (μ 34) v ≤ 1000) {e y : Int} (e0 : 0 ≤ e) (e1 : e < (μ 1 1)) (y0 : (μ 14) e ≤ y) (y1 : y < (μ 15) e) : (0 ≤ xSh μ e y ∧ xSh μ e y ≤ 1000) ∧ (0 ≤ (μ 34) (xOn μ e y) ∧ (μ 34) (xOn μ e y) ≤ 1000) ∧ (0 ≤ (μ 34) (xOn μ e (y + 1)) ∧ (μ 34) (xOn μ e (y + 1)) ≤ 1000) ∧ (xSh μ e y = 0 ↔ (μ 34) (xOn μ e y) = (μ 34) (xOn μ e (y + 1))) := by
  have a := xOn_v hG hL hN e0 e1 y0 (by omega)
  have b := xOn_v hG hL hN e0 e1 (show (μ 14) e ≤ y + 1 by omega) (by omega)
  have c := hX _ a.1.1 a.1.2
  have d := hX _ b.1.1 b.1.2
  unfold xSh gAbs
  refine ⟨?_, c, d, ?_⟩ <;> split <;> omega
theorem t_7 {D : Nat} (hD : 2 ≤ D) {μ : MU} {Q : GQ} {e y : Int} (hG : iG μ) (hL : iL μ) (hN : iN μ) (hX : ∀ v : Int, 0 ≤ v → v < (μ 19 2) → 0 ≤ (μ 34) v ∧ (μ 34) v ≤ 1000) (e0 : 0 ≤ e) (e1 : e < (μ 1 1)) (y0 : (μ 14) e ≤ y) (y1 : y < (μ 15) e) (h : Q (some (gI (xSh μ e y))) g_SH μ) : gCall g_T g_F sN sX D 7 [gR 33, gI e, gI y] g_SH μ Q := by
  have V := hN.1
  have E := iE hG hL e0 e1
  have a := xOn_v hG hL hN e0 e1 y0 (by omega)
  have b := xOn_v hG hL hN e0 e1 (show (μ 14) e ≤ y + 1 by omega) (by omega)
  have c := xSh_b hG hL hN hX e0 e1 y0 y1
  have a1 := a.1
  have b1 := b.1
  have c1 := c.2.1
  have c2 := c.2.2.1
  clear a b c
  obtain ⟨d, rfl⟩ := gD (show 1 ≤ D by omega)
  refine gC 300 [] rfl ?_
  (conv => whnf); try simp only [gO, gWe, ne_eq, Nat.reduceEqDiff, not_false_eq_true, true_or, or_true, true_and]
  repeat' (first | exact True.intro | (refine ⟨fun hb => ?_, fun hb => ?_⟩ <;> first | (exfalso; omega; done) | exact absurd True.intro hb | ((conv => whnf); try simp only [gO, gWe, ne_eq, Nat.reduceEqDiff, not_false_eq_true, true_or, or_true, true_and])) | (refine ⟨by omega, ?_⟩; (conv => whnf); try simp only [gO, gWe, ne_eq, Nat.reduceEqDiff, not_false_eq_true, true_or, or_true, true_and]) | (refine ⟨fun hb => ?_, ?_⟩ <;> first | (exfalso; omega; done) | exact absurd True.intro hb | ((conv => whnf); try simp only [gO, gWe, ne_eq, Nat.reduceEqDiff, not_false_eq_true, true_or, or_true, true_and])) | fail)
  refine t_39 (by omega) hG hL hN e0 e1 ?_
  (conv => whnf); try simp only [gO, gWe, ne_eq, Nat.reduceEqDiff, not_false_eq_true, true_or, or_true, true_and]
  repeat' (first | exact True.intro | (refine ⟨fun hb => ?_, fun hb => ?_⟩ <;> first | (exfalso; omega; done) | exact absurd True.intro hb | ((conv => whnf); try simp only [gO, gWe, ne_eq, Nat.reduceEqDiff, not_false_eq_true, true_or, or_true, true_and])) | (refine ⟨by omega, ?_⟩; (conv => whnf); try simp only [gO, gWe, ne_eq, Nat.reduceEqDiff, not_false_eq_true, true_or, or_true, true_and]) | (refine ⟨fun hb => ?_, ?_⟩ <;> first | (exfalso; omega; done) | exact absurd True.intro hb | ((conv => whnf); try simp only [gO, gWe, ne_eq, Nat.reduceEqDiff, not_false_eq_true, true_or, or_true, true_and])) | fail)
  refine t_39 (by omega) hG hL hN e0 e1 ?_
  (conv => whnf); try simp only [gO, gWe, ne_eq, Nat.reduceEqDiff, not_false_eq_true, true_or, or_true, true_and]
  repeat' (first | exact True.intro | (refine ⟨fun hb => ?_, fun hb => ?_⟩ <;> first | (exfalso; omega; done) | exact absurd True.intro hb | ((conv => whnf); try simp only [gO, gWe, ne_eq, Nat.reduceEqDiff, not_false_eq_true, true_or, or_true, true_and])) | (refine ⟨by omega, ?_⟩; (conv => whnf); try simp only [gO, gWe, ne_eq, Nat.reduceEqDiff, not_false_eq_true, true_or, or_true, true_and]) | (refine ⟨fun hb => ?_, ?_⟩ <;> first | (exfalso; omega; done) | exact absurd True.intro hb | ((conv => whnf); try simp only [gO, gWe, ne_eq, Nat.reduceEqDiff, not_false_eq_true, true_or, or_true, true_and])) | fail)
  exact h
theorem t_9 {D : Nat} (hD : 3 ≤ D) {μ : MU} {Q : GQ} {e : Int} (hG : iG μ) (hL : iL μ) (hN : iN μ) (hX : ∀ v : Int, 0 ≤ v → v < (μ 19 2) → 0 ≤ (μ 34) v ∧ (μ 34) v ≤ 1000) (e0 : 0 ≤ e) (e1 : e < (μ 1 1)) (h : Q (some (gI (xStr μ e ((μ 15) e - (μ 14) e)))) g_SH μ) : gCall g_T g_F sN sX D 9 [gR 33, gI e] g_SH μ Q := by
  have E := iE hG hL e0 e1
  have G := hG.1
  obtain ⟨d, rfl⟩ := gD (show 1 ≤ D by omega)
  refine gC 300 [23] rfl ?_
  (conv => whnf); try simp only [gO, gWe, ne_eq, Nat.reduceEqDiff, not_false_eq_true, true_or, or_true, true_and]
  repeat' (first | exact True.intro | (refine ⟨fun hb => ?_, fun hb => ?_⟩ <;> first | (exfalso; omega; done) | exact absurd True.intro hb | ((conv => whnf); try simp only [gO, gWe, ne_eq, Nat.reduceEqDiff, not_false_eq_true, true_or, or_true, true_and])) | (refine ⟨by omega, ?_⟩; (conv => whnf); try simp only [gO, gWe, ne_eq, Nat.reduceEqDiff, not_false_eq_true, true_or, or_true, true_and]) | (refine ⟨fun hb => ?_, ?_⟩ <;> first | (exfalso; omega; done) | exact absurd True.intro hb | ((conv => whnf); try simp only [gO, gWe, ne_eq, Nat.reduceEqDiff, not_false_eq_true, true_or, or_true, true_and])) | fail)
  have key : ∀ y : Int, (μ 14) e ≤ y → y ≤ (μ 15) e → gG g_T g_F (gCall g_T g_F sN sX d) sN sX (g_T 9) Q 23 [gR 33, gI e, gI (xStr μ e (y - (μ 14) e)), gI ((μ 15) e), gI y] [] g_SH μ 0 0 := by
    refine g_up (fun y y0 y1 ih => ?_) ?_
    · have s := gSum_s (fun j => if xSh μ e ((μ 14) e + j) = 0 then (1 : Int) else 0) (y - (μ 14) e) (by omega)
      have s' : xStr μ e (y + 1 - (μ 14) e) = xStr μ e (y - (μ 14) e) + (if xSh μ e y = 0 then 1 else 0) := by
        unfold xStr
        rw [show y + 1 - (μ 14) e = y - (μ 14) e + 1 by omega, s, show (μ 14) e + (y - (μ 14) e) = y by omega]
      rw [s'] at ih
      have sb := gSum_b (f := fun j => if xSh μ e ((μ 14) e + j) = 0 then (1 : Int) else 0) (a := 0) (b := 1) (y - (μ 14) e).toNat (fun j _ _ => by
        show (0 : Int) ≤ (if xSh μ e ((μ 14) e + j) = 0 then 1 else 0) ∧ (if xSh μ e ((μ 14) e + j) = 0 then (1 : Int) else 0) ≤ 1
        split <;> omega)
      have sb' : 0 ≤ xStr μ e (y - (μ 14) e) ∧ xStr μ e (y - (μ 14) e) ≤ 40 := by unfold xStr; omega
      clear s s' sb
      generalize xStr μ e (y - (μ 14) e) = m at *
      by_cases c : xSh μ e y = 0
      · rw [if_pos c] at ih
        refine gB_gG [23] 300 ?_
        (conv => whnf); try simp only [gO, gWe, ne_eq, Nat.reduceEqDiff, not_false_eq_true, true_or, or_true, true_and]
        repeat' (first | exact True.intro | (refine ⟨fun hb => ?_, fun hb => ?_⟩ <;> first | (exfalso; omega; done) | exact absurd True.intro hb | ((conv => whnf); try simp only [gO, gWe, ne_eq, Nat.reduceEqDiff, not_false_eq_true, true_or, or_true, true_and])) | (refine ⟨by omega, ?_⟩; (conv => whnf); try simp only [gO, gWe, ne_eq, Nat.reduceEqDiff, not_false_eq_true, true_or, or_true, true_and]) | (refine ⟨fun hb => ?_, ?_⟩ <;> first | (exfalso; omega; done) | exact absurd True.intro hb | ((conv => whnf); try simp only [gO, gWe, ne_eq, Nat.reduceEqDiff, not_false_eq_true, true_or, or_true, true_and])) | fail)
        refine t_7 (by omega) hG hL hN hX e0 e1 y0 y1 ?_
        (conv => whnf); try simp only [gO, gWe, ne_eq, Nat.reduceEqDiff, not_false_eq_true, true_or, or_true, true_and]
        repeat' (first | exact True.intro | (refine ⟨fun hb => ?_, fun hb => ?_⟩ <;> first | (exfalso; omega; done) | exact absurd True.intro hb | ((conv => whnf); try simp only [gO, gWe, ne_eq, Nat.reduceEqDiff, not_false_eq_true, true_or, or_true, true_and])) | (refine ⟨by omega, ?_⟩; (conv => whnf); try simp only [gO, gWe, ne_eq, Nat.reduceEqDiff, not_false_eq_true, true_or, or_true, true_and]) | (refine ⟨fun hb => ?_, ?_⟩ <;> first | (exfalso; omega; done) | exact absurd True.intro hb | ((conv => whnf); try simp only [gO, gWe, ne_eq, Nat.reduceEqDiff, not_false_eq_true, true_or, or_true, true_and])) | fail)
        exact ih
      · rw [if_neg c, Int.add_zero] at ih
        refine gB_gG [23] 300 ?_
        (conv => whnf); try simp only [gO, gWe, ne_eq, Nat.reduceEqDiff, not_false_eq_true, true_or, or_true, true_and]
        repeat' (first | exact True.intro | (refine ⟨fun hb => ?_, fun hb => ?_⟩ <;> first | (exfalso; omega; done) | exact absurd True.intro hb | ((conv => whnf); try simp only [gO, gWe, ne_eq, Nat.reduceEqDiff, not_false_eq_true, true_or, or_true, true_and])) | (refine ⟨by omega, ?_⟩; (conv => whnf); try simp only [gO, gWe, ne_eq, Nat.reduceEqDiff, not_false_eq_true, true_or, or_true, true_and]) | (refine ⟨fun hb => ?_, ?_⟩ <;> first | (exfalso; omega; done) | exact absurd True.intro hb | ((conv => whnf); try simp only [gO, gWe, ne_eq, Nat.reduceEqDiff, not_false_eq_true, true_or, or_true, true_and])) | fail)
        refine t_7 (by omega) hG hL hN hX e0 e1 y0 y1 ?_
        (conv => whnf); try simp only [gO, gWe, ne_eq, Nat.reduceEqDiff, not_false_eq_true, true_or, or_true, true_and]
        repeat' (first | exact True.intro | (refine ⟨fun hb => ?_, fun hb => ?_⟩ <;> first | (exfalso; omega; done) | exact absurd True.intro hb | ((conv => whnf); try simp only [gO, gWe, ne_eq, Nat.reduceEqDiff, not_false_eq_true, true_or, or_true, true_and])) | (refine ⟨by omega, ?_⟩; (conv => whnf); try simp only [gO, gWe, ne_eq, Nat.reduceEqDiff, not_false_eq_true, true_or, or_true, true_and]) | (refine ⟨fun hb => ?_, ?_⟩ <;> first | (exfalso; omega; done) | exact absurd True.intro hb | ((conv => whnf); try simp only [gO, gWe, ne_eq, Nat.reduceEqDiff, not_false_eq_true, true_or, or_true, true_and])) | fail)
        exact ih
    · refine gB_gG [23] 300 ?_
      (conv => whnf); try simp only [gO, gWe, ne_eq, Nat.reduceEqDiff, not_false_eq_true, true_or, or_true, true_and]
      repeat' (first | exact True.intro | (refine ⟨fun hb => ?_, fun hb => ?_⟩ <;> first | (exfalso; omega; done) | exact absurd True.intro hb | ((conv => whnf); try simp only [gO, gWe, ne_eq, Nat.reduceEqDiff, not_false_eq_true, true_or, or_true, true_and])) | (refine ⟨by omega, ?_⟩; (conv => whnf); try simp only [gO, gWe, ne_eq, Nat.reduceEqDiff, not_false_eq_true, true_or, or_true, true_and]) | (refine ⟨fun hb => ?_, ?_⟩ <;> first | (exfalso; omega; done) | exact absurd True.intro hb | ((conv => whnf); try simp only [gO, gWe, ne_eq, Nat.reduceEqDiff, not_false_eq_true, true_or, or_true, true_and])) | fail)
      exact h
  have k := key ((μ 14) e) (by omega) (by omega)
  rw [Int.sub_self] at k
  exact k
theorem t_8 {D : Nat} (hD : 3 ≤ D) {μ : MU} {Q : GQ} (hG : iG μ) (hL : iL μ) (hN : iN μ) (hX : ∀ v : Int, 0 ≤ v → v < (μ 19 2) → 0 ≤ (μ 34) v ∧ (μ 34) v ≤ 1000) (h : Q (some (gI (xSpr μ))) g_SH μ) : gCall g_T g_F sN sX D 8 [gR 33] g_SH μ Q := by
  have G := hG.1
  obtain ⟨d, rfl⟩ := gD (show 1 ≤ D by omega)
  refine gC 300 [4] rfl ?_
  (conv => whnf); try simp only [gO, gWe, ne_eq, Nat.reduceEqDiff, not_false_eq_true, true_or, or_true, true_and]
  have spb : ∀ e n : Int, 0 ≤ e → e < (μ 1 1) → 0 ≤ n → n ≤ (μ 15) e - (μ 14) e → 0 ≤ xSp μ e n ∧ xSp μ e n ≤ 40000 := fun e n e0 e1 n0 n1 => by
    have E := iE hG hL e0 e1
    have sb := gSum_b (f := fun j => xSh μ e ((μ 14) e + j)) (a := 0) (b := 1000) n.toNat (fun j j0 j1 => (xSh_b hG hL hN hX e0 e1 (show (μ 14) e ≤ (μ 14) e + j by omega) (by omega)).1)
    unfold xSp
    omega
  have key : ∀ e : Int, 0 ≤ e → e ≤ (μ 1 1) → ∀ x y : GV, gG g_T g_F (gCall g_T g_F sN sX d) sN sX (g_T 8) Q 4 [gR 33, gI (gSum (fun e => xSp μ e ((μ 15) e - (μ 14) e)) e.toNat), gI e, x, y] [] g_SH μ 0 0 := by
    refine g_up (fun e e0 e1 ih x z => ?_) (fun x z => ?_)
    · have E := iE hG hL e0 e1
      rw [gSum_s _ e e0] at ih
      have tb := gSum_b (f := fun e => xSp μ e ((μ 15) e - (μ 14) e)) (a := 0) (b := 40000) e.toNat (fun i i0 i1 => spb i _ i0 (by omega) (by have := iE hG hL i0 (show i < (μ 1 1) by omega); omega) (Int.le_refl _))
      generalize gSum (fun e => xSp μ e ((μ 15) e - (μ 14) e)) e.toNat = s at *
      have inn : ∀ y : Int, (μ 14) e ≤ y → y ≤ (μ 15) e → gG g_T g_F (gCall g_T g_F sN sX d) sN sX (g_T 8) Q 36 [gR 33, gI (s + xSp μ e (y - (μ 14) e)), gI e, gI ((μ 15) e), gI y] [] g_SH μ 0 0 := by
        refine g_up (fun y y0 y1 ihy => ?_) ?_
        · have g := gSum_s (fun j => xSh μ e ((μ 14) e + j)) (y - (μ 14) e) (by omega)
          have g' : xSp μ e (y + 1 - (μ 14) e) = xSp μ e (y - (μ 14) e) + xSh μ e y := by
            unfold xSp
            rw [show y + 1 - (μ 14) e = y - (μ 14) e + 1 by omega, g, show (μ 14) e + (y - (μ 14) e) = y by omega]
          have b := spb e (y - (μ 14) e) e0 e1 (by omega) (by omega)
          have c := (xSh_b hG hL hN hX e0 e1 y0 y1).1
          rw [g', ← Int.add_assoc] at ihy
          clear g g' spb
          generalize xSp μ e (y - (μ 14) e) = m at *
          refine gB_gG [36] 300 ?_
          (conv => whnf); try simp only [gO, gWe, ne_eq, Nat.reduceEqDiff, not_false_eq_true, true_or, or_true, true_and]
          repeat' (first | exact True.intro | (refine ⟨fun hb => ?_, fun hb => ?_⟩ <;> first | (exfalso; omega; done) | exact absurd True.intro hb | ((conv => whnf); try simp only [gO, gWe, ne_eq, Nat.reduceEqDiff, not_false_eq_true, true_or, or_true, true_and])) | (refine ⟨by omega, ?_⟩; (conv => whnf); try simp only [gO, gWe, ne_eq, Nat.reduceEqDiff, not_false_eq_true, true_or, or_true, true_and]) | (refine ⟨fun hb => ?_, ?_⟩ <;> first | (exfalso; omega; done) | exact absurd True.intro hb | ((conv => whnf); try simp only [gO, gWe, ne_eq, Nat.reduceEqDiff, not_false_eq_true, true_or, or_true, true_and])) | fail)
          refine t_7 (by omega) hG hL hN hX e0 e1 y0 y1 ?_
          (conv => whnf); try simp only [gO, gWe, ne_eq, Nat.reduceEqDiff, not_false_eq_true, true_or, or_true, true_and]
          repeat' (first | exact True.intro | (refine ⟨fun hb => ?_, fun hb => ?_⟩ <;> first | (exfalso; omega; done) | exact absurd True.intro hb | ((conv => whnf); try simp only [gO, gWe, ne_eq, Nat.reduceEqDiff, not_false_eq_true, true_or, or_true, true_and])) | (refine ⟨by omega, ?_⟩; (conv => whnf); try simp only [gO, gWe, ne_eq, Nat.reduceEqDiff, not_false_eq_true, true_or, or_true, true_and]) | (refine ⟨fun hb => ?_, ?_⟩ <;> first | (exfalso; omega; done) | exact absurd True.intro hb | ((conv => whnf); try simp only [gO, gWe, ne_eq, Nat.reduceEqDiff, not_false_eq_true, true_or, or_true, true_and])) | fail)
          exact ihy
        · have i := ih (gI ((μ 15) e)) (gI ((μ 15) e))
          clear spb
          refine gB_gG [36,4] 300 ?_
          (conv => whnf); try simp only [gO, gWe, ne_eq, Nat.reduceEqDiff, not_false_eq_true, true_or, or_true, true_and]
          repeat' (first | exact True.intro | (refine ⟨fun hb => ?_, fun hb => ?_⟩ <;> first | (exfalso; omega; done) | exact absurd True.intro hb | ((conv => whnf); try simp only [gO, gWe, ne_eq, Nat.reduceEqDiff, not_false_eq_true, true_or, or_true, true_and])) | (refine ⟨by omega, ?_⟩; (conv => whnf); try simp only [gO, gWe, ne_eq, Nat.reduceEqDiff, not_false_eq_true, true_or, or_true, true_and]) | (refine ⟨fun hb => ?_, ?_⟩ <;> first | (exfalso; omega; done) | exact absurd True.intro hb | ((conv => whnf); try simp only [gO, gWe, ne_eq, Nat.reduceEqDiff, not_false_eq_true, true_or, or_true, true_and])) | fail)
          exact i
      have i := inn ((μ 14) e) (by omega) (by omega)
      have z0 : s + xSp μ e ((μ 14) e - (μ 14) e) = s := by
        rw [Int.sub_self]
        show s + 0 = s
        omega
      rw [z0] at i
      clear spb inn ih
      refine gB_gG [4,36] 300 ?_
      (conv => whnf); try simp only [gO, gWe, ne_eq, Nat.reduceEqDiff, not_false_eq_true, true_or, or_true, true_and]
      repeat' (first | exact True.intro | (refine ⟨fun hb => ?_, fun hb => ?_⟩ <;> first | (exfalso; omega; done) | exact absurd True.intro hb | ((conv => whnf); try simp only [gO, gWe, ne_eq, Nat.reduceEqDiff, not_false_eq_true, true_or, or_true, true_and])) | (refine ⟨by omega, ?_⟩; (conv => whnf); try simp only [gO, gWe, ne_eq, Nat.reduceEqDiff, not_false_eq_true, true_or, or_true, true_and]) | (refine ⟨fun hb => ?_, ?_⟩ <;> first | (exfalso; omega; done) | exact absurd True.intro hb | ((conv => whnf); try simp only [gO, gWe, ne_eq, Nat.reduceEqDiff, not_false_eq_true, true_or, or_true, true_and])) | fail)
      exact i
    · clear spb
      refine gB_gG [4] 300 ?_
      (conv => whnf); try simp only [gO, gWe, ne_eq, Nat.reduceEqDiff, not_false_eq_true, true_or, or_true, true_and]
      repeat' (first | exact True.intro | (refine ⟨fun hb => ?_, fun hb => ?_⟩ <;> first | (exfalso; omega; done) | exact absurd True.intro hb | ((conv => whnf); try simp only [gO, gWe, ne_eq, Nat.reduceEqDiff, not_false_eq_true, true_or, or_true, true_and])) | (refine ⟨by omega, ?_⟩; (conv => whnf); try simp only [gO, gWe, ne_eq, Nat.reduceEqDiff, not_false_eq_true, true_or, or_true, true_and]) | (refine ⟨fun hb => ?_, ?_⟩ <;> first | (exfalso; omega; done) | exact absurd True.intro hb | ((conv => whnf); try simp only [gO, gWe, ne_eq, Nat.reduceEqDiff, not_false_eq_true, true_or, or_true, true_and])) | fail)
      exact h
  exact key 0 (by omega) (by omega) _ _
/-- the ends of a part, by their names -/
theorem xOn_u {μ : MU} (hG : iG μ) (hL : iL μ) (hN : iN μ) {e y : Int} (e0 : 0 ≤ e) (e1 : e < (μ 1 1)) (y0 : (μ 14) e ≤ y) (y1 : y < (μ 15) e) : (if (μ 14) e = y then (μ 11) e else 100 + 40 * e + y) = (μ 20) (xOn μ e y) ∧ (if (μ 15) e = y + 1 then (μ 12) e else 100 + 40 * e + (y + 1)) = (μ 20) (xOn μ e (y + 1)) := by
  have a := (xOn_v hG hL hN e0 e1 y0 (by omega)).2.2
  have b := (xOn_v hG hL hN e0 e1 (show (μ 14) e ≤ y + 1 by omega) (by omega)).2.2
  rw [a, b, if_neg (show ¬ (μ 15) e = y by omega), if_neg (show ¬ (μ 14) e = y + 1 by omega)]
  exact ⟨rfl, rfl⟩
theorem xSpr_c {μ ν : MU} (st : hSt μ ν) (h34 : ν 34 = μ 34) : xSpr ν = xSpr μ := by
  unfold xSpr xSp xSh
  rw [xOn_c st, st 14 (by decide) (by decide), st 15 (by decide) (by decide), st 1 (by decide) (by decide), h34]
