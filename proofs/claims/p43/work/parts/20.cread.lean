variable {sN : Int} {sX : Int → Int}
/-! the class's methods that read the drawing -/
theorem t_39 {D : Nat} (hD : 1 ≤ D) {μ : MU} {Q : GQ} {e y : Int} (hG : iG μ) (hL : iL μ) (hN : iN μ) (h0 : 0 ≤ e) (h1 : e < (μ 1 1)) (h : Q (some (gI (xOn μ e y))) g_SH μ) : gCall g_T g_F sN sX D 39 [gR 19, gI e, gI y] g_SH μ Q := by
  have E := iE hG hL h0 h1
  have G := hG.1
  have F := iN_fb hG hL hN h0 h1
  have V := hN.1
  unfold xOn at h
  obtain ⟨d, rfl⟩ := gD (show 1 ≤ D by omega)
  refine gC 300 [] rfl ?_
  (conv => whnf); try simp only [gO, gWe, ne_eq, Nat.reduceEqDiff, not_false_eq_true, true_or, or_true, true_and]
  repeat' (first | exact True.intro | (refine ⟨fun hb => ?_, fun hb => ?_⟩ <;> first | (exfalso; omega; done) | exact absurd True.intro hb | ((conv => whnf); try simp only [gO, gWe, ne_eq, Nat.reduceEqDiff, not_false_eq_true, true_or, or_true, true_and])) | (refine ⟨by omega, ?_⟩; (conv => whnf); try simp only [gO, gWe, ne_eq, Nat.reduceEqDiff, not_false_eq_true, true_or, or_true, true_and]) | (refine ⟨fun hb => ?_, ?_⟩ <;> first | (exfalso; omega; done) | exact absurd True.intro hb | ((conv => whnf); try simp only [gO, gWe, ne_eq, Nat.reduceEqDiff, not_false_eq_true, true_or, or_true, true_and])) | fail)
  · rw [if_neg (by omega), if_neg (by omega)] at h
    exact h
  · rw [if_neg (by omega), if_pos (by omega)] at h
    exact h
  · rw [if_pos (by omega)] at h
    exact h
theorem t_40 {D : Nat} (hD : 1 ≤ D) {μ : MU} {Q : GQ} {e y : Int} (hG : iG μ) (h0 : 0 ≤ e) (h1 : e < (μ 1 1)) (k1 : ((μ 14) e ≤ y ∧ y < (μ 15) e) → Q (some (gI (1))) g_SH μ) (k0 : ¬ ((μ 14) e ≤ y ∧ y < (μ 15) e) → Q (some (gI (0))) g_SH μ) : gCall g_T g_F sN sX D 40 [gR 19, gI e, gI y] g_SH μ Q := by
  have G := hG.1
  obtain ⟨d, rfl⟩ := gD (show 1 ≤ D by omega)
  refine gC 300 [] rfl ?_
  (conv => whnf); try simp only [gO, gWe, ne_eq, Nat.reduceEqDiff, not_false_eq_true, true_or, or_true, true_and]
  repeat' (first | exact True.intro | (refine ⟨fun hb => ?_, fun hb => ?_⟩ <;> first | (exfalso; omega; done) | exact absurd True.intro hb | ((conv => whnf); try simp only [gO, gWe, ne_eq, Nat.reduceEqDiff, not_false_eq_true, true_or, or_true, true_and])) | (refine ⟨by omega, ?_⟩; (conv => whnf); try simp only [gO, gWe, ne_eq, Nat.reduceEqDiff, not_false_eq_true, true_or, or_true, true_and]) | (refine ⟨fun hb => ?_, ?_⟩ <;> first | (exfalso; omega; done) | exact absurd True.intro hb | ((conv => whnf); try simp only [gO, gWe, ne_eq, Nat.reduceEqDiff, not_false_eq_true, true_or, or_true, true_and])) | fail)
  all_goals first | exact k1 (by omega) | exact k0 (by omega)
theorem t_41 {D : Nat} (hD : 1 ≤ D) {μ : MU} {Q : GQ} {v : Int} (hG : iG μ) (h0 : 0 ≤ v) (h : Q (some (gI (xGr μ v))) g_SH μ) : gCall g_T g_F sN sX D 41 [gR 19, gI v] g_SH μ Q := by
  have G := hG.1
  unfold xGr at h
  obtain ⟨d, rfl⟩ := gD (show 1 ≤ D by omega)
  refine gC 300 [] rfl ?_
  (conv => whnf); try simp only [gO, gWe, ne_eq, Nat.reduceEqDiff, not_false_eq_true, true_or, or_true, true_and]
  repeat' (first | exact True.intro | (refine ⟨fun hb => ?_, fun hb => ?_⟩ <;> first | (exfalso; omega; done) | exact absurd True.intro hb | ((conv => whnf); try simp only [gO, gWe, ne_eq, Nat.reduceEqDiff, not_false_eq_true, true_or, or_true, true_and])) | (refine ⟨by omega, ?_⟩; (conv => whnf); try simp only [gO, gWe, ne_eq, Nat.reduceEqDiff, not_false_eq_true, true_or, or_true, true_and]) | (refine ⟨fun hb => ?_, ?_⟩ <;> first | (exfalso; omega; done) | exact absurd True.intro hb | ((conv => whnf); try simp only [gO, gWe, ne_eq, Nat.reduceEqDiff, not_false_eq_true, true_or, or_true, true_and])) | fail)
  · rw [if_neg (by omega)] at h
    exact h
  · rw [if_pos (by omega)] at h
    exact h
theorem t_42 {D : Nat} (hD : 1 ≤ D) {μ : MU} {Q : GQ} {v : Int} (hG : iG μ) (h0 : 0 ≤ v) (h : Q (some (gI (xWd μ v))) g_SH μ) : gCall g_T g_F sN sX D 42 [gR 19, gI v] g_SH μ Q := by
  have G := hG.1
  unfold xWd at h
  obtain ⟨d, rfl⟩ := gD (show 1 ≤ D by omega)
  refine gC 300 [] rfl ?_
  (conv => whnf); try simp only [gO, gWe, ne_eq, Nat.reduceEqDiff, not_false_eq_true, true_or, or_true, true_and]
  repeat' (first | exact True.intro | (refine ⟨fun hb => ?_, fun hb => ?_⟩ <;> first | (exfalso; omega; done) | exact absurd True.intro hb | ((conv => whnf); try simp only [gO, gWe, ne_eq, Nat.reduceEqDiff, not_false_eq_true, true_or, or_true, true_and])) | (refine ⟨by omega, ?_⟩; (conv => whnf); try simp only [gO, gWe, ne_eq, Nat.reduceEqDiff, not_false_eq_true, true_or, or_true, true_and]) | (refine ⟨fun hb => ?_, ?_⟩ <;> first | (exfalso; omega; done) | exact absurd True.intro hb | ((conv => whnf); try simp only [gO, gWe, ne_eq, Nat.reduceEqDiff, not_false_eq_true, true_or, or_true, true_and])) | fail)
  · rw [if_neg (by omega)] at h
    exact h
  · rw [if_pos (by omega)] at h
    exact h
theorem t_43 {D : Nat} (hD : 1 ≤ D) {μ : MU} {Q : GQ} {y : Int} (hG : iG μ) (hL : iL μ) (hN : iN μ) (h0 : 0 ≤ y) (h1 : y < (μ 9 1)) (h : Q (some (gI ((μ 23) (y + 1) - (μ 23) y))) g_SH μ) : gCall g_T g_F sN sX D 43 [gR 19, gI y] g_SH μ Q := by
  have L := hL.2.2.2.1
  have st := (iN_st hG hL hN).1 y h0 h1
  have V := hN.1
  have G := hG.1
  obtain ⟨d, rfl⟩ := gD (show 1 ≤ D by omega)
  refine gC 300 [] rfl ?_
  (conv => whnf); try simp only [gO, gWe, ne_eq, Nat.reduceEqDiff, not_false_eq_true, true_or, or_true, true_and]
  repeat' (first | exact True.intro | (refine ⟨fun hb => ?_, fun hb => ?_⟩ <;> first | (exfalso; omega; done) | exact absurd True.intro hb | ((conv => whnf); try simp only [gO, gWe, ne_eq, Nat.reduceEqDiff, not_false_eq_true, true_or, or_true, true_and])) | (refine ⟨by omega, ?_⟩; (conv => whnf); try simp only [gO, gWe, ne_eq, Nat.reduceEqDiff, not_false_eq_true, true_or, or_true, true_and]) | (refine ⟨fun hb => ?_, ?_⟩ <;> first | (exfalso; omega; done) | exact absurd True.intro hb | ((conv => whnf); try simp only [gO, gWe, ne_eq, Nat.reduceEqDiff, not_false_eq_true, true_or, or_true, true_and])) | fail)
  exact h
theorem t_54 {D : Nat} (hD : 2 ≤ D) {μ : MU} {Q : GQ} {e y : Int} (hG : iG μ) (hL : iL μ) (hN : iN μ) (hO : iO μ (μ 24) (μ 25)) (h0 : 0 ≤ e) (h1 : e < (μ 1 1)) (y0 : (μ 14) e ≤ y) (y1 : y ≤ (μ 15) e) (h : Q (some (gI (xSpot μ (μ 25) e y))) g_SH μ) : gCall g_T g_F sN sX D 54 [gR 19, gI e, gI y] g_SH μ Q := by
  have E := iE hG hL h0 h1
  have G := hG.1
  have V := hN.1
  have g := hG.2.2 e h0 h1
  have v := xOn_v hG hL hN h0 h1 y0 y1
  have a := (iO_v hG hL hN hO v.1.1 v.1.2).2.1
  unfold xSpot at h
  obtain ⟨d, rfl⟩ := gD (show 1 ≤ D by omega)
  refine gC 300 [] rfl ?_
  (conv => whnf); try simp only [gO, gWe, ne_eq, Nat.reduceEqDiff, not_false_eq_true, true_or, or_true, true_and]
  repeat' (first | exact True.intro | (refine ⟨fun hb => ?_, fun hb => ?_⟩ <;> first | (exfalso; omega; done) | exact absurd True.intro hb | ((conv => whnf); try simp only [gO, gWe, ne_eq, Nat.reduceEqDiff, not_false_eq_true, true_or, or_true, true_and])) | (refine ⟨by omega, ?_⟩; (conv => whnf); try simp only [gO, gWe, ne_eq, Nat.reduceEqDiff, not_false_eq_true, true_or, or_true, true_and]) | (refine ⟨fun hb => ?_, ?_⟩ <;> first | (exfalso; omega; done) | exact absurd True.intro hb | ((conv => whnf); try simp only [gO, gWe, ne_eq, Nat.reduceEqDiff, not_false_eq_true, true_or, or_true, true_and])) | fail)
  · refine t_39 (by omega) hG hL hN h0 h1 ?_
    (conv => whnf); try simp only [gO, gWe, ne_eq, Nat.reduceEqDiff, not_false_eq_true, true_or, or_true, true_and]
    repeat' (first | exact True.intro | (refine ⟨fun hb => ?_, fun hb => ?_⟩ <;> first | (exfalso; omega; done) | exact absurd True.intro hb | ((conv => whnf); try simp only [gO, gWe, ne_eq, Nat.reduceEqDiff, not_false_eq_true, true_or, or_true, true_and])) | (refine ⟨by omega, ?_⟩; (conv => whnf); try simp only [gO, gWe, ne_eq, Nat.reduceEqDiff, not_false_eq_true, true_or, or_true, true_and]) | (refine ⟨fun hb => ?_, ?_⟩ <;> first | (exfalso; omega; done) | exact absurd True.intro hb | ((conv => whnf); try simp only [gO, gWe, ne_eq, Nat.reduceEqDiff, not_false_eq_true, true_or, or_true, true_and])) | fail)
    rw [if_neg (by omega), if_neg (by omega)] at h
    exact h
  · refine t_24 (by omega) hG hL h0 h1 ?_
    (conv => whnf); try simp only [gO, gWe, ne_eq, Nat.reduceEqDiff, not_false_eq_true, true_or, or_true, true_and]
    rw [if_neg (by omega), if_pos (by omega)] at h
    refine t_39 (by omega) hG hL hN h0 h1 ?_
    (conv => whnf); try simp only [gO, gWe, ne_eq, Nat.reduceEqDiff, not_false_eq_true, true_or, or_true, true_and]
    repeat' (first | exact True.intro | (refine ⟨fun hb => ?_, fun hb => ?_⟩ <;> first | (exfalso; omega; done) | exact absurd True.intro hb | ((conv => whnf); try simp only [gO, gWe, ne_eq, Nat.reduceEqDiff, not_false_eq_true, true_or, or_true, true_and])) | (refine ⟨by omega, ?_⟩; (conv => whnf); try simp only [gO, gWe, ne_eq, Nat.reduceEqDiff, not_false_eq_true, true_or, or_true, true_and]) | (refine ⟨fun hb => ?_, ?_⟩ <;> first | (exfalso; omega; done) | exact absurd True.intro hb | ((conv => whnf); try simp only [gO, gWe, ne_eq, Nat.reduceEqDiff, not_false_eq_true, true_or, or_true, true_and])) | fail)
    exact h
  · refine t_23 (by omega) hG hL h0 h1 ?_
    (conv => whnf); try simp only [gO, gWe, ne_eq, Nat.reduceEqDiff, not_false_eq_true, true_or, or_true, true_and]
    rw [if_pos (by omega)] at h
    refine t_39 (by omega) hG hL hN h0 h1 ?_
    (conv => whnf); try simp only [gO, gWe, ne_eq, Nat.reduceEqDiff, not_false_eq_true, true_or, or_true, true_and]
    repeat' (first | exact True.intro | (refine ⟨fun hb => ?_, fun hb => ?_⟩ <;> first | (exfalso; omega; done) | exact absurd True.intro hb | ((conv => whnf); try simp only [gO, gWe, ne_eq, Nat.reduceEqDiff, not_false_eq_true, true_or, or_true, true_and])) | (refine ⟨by omega, ?_⟩; (conv => whnf); try simp only [gO, gWe, ne_eq, Nat.reduceEqDiff, not_false_eq_true, true_or, or_true, true_and]) | (refine ⟨fun hb => ?_, ?_⟩ <;> first | (exfalso; omega; done) | exact absurd True.intro hb | ((conv => whnf); try simp only [gO, gWe, ne_eq, Nat.reduceEqDiff, not_false_eq_true, true_or, or_true, true_and])) | fail)
    exact h
/-- what the order's methods stand on -/
def iH (μ : MU) : Prop := iG μ ∧ iL μ ∧ iN μ ∧ iO μ (μ 24) (μ 25)
theorem iH_c {μ ν : MU} (h : hSt μ ν) (h1 : (ν 24) = (μ 24)) (h2 : (ν 25) = (μ 25)) (x : iH μ) : iH ν := ⟨iG_c h x.1, iL_c h x.2.1, iN_c h x.2.2.1, by rw [h1, h2]; exact iO_c h x.2.2.2⟩
def hH (u l u' l' : Int) : Int := if (u - u') * (l - l') < 0 then 1 else 0
theorem t_55 {D : Nat} (hD : 3 ≤ D) {μ : MU} {Q : GQ} {y : Int} (hH0 : iH μ) (hy : -1 ≤ y ∧ y ≤ 40) (h : ∀ ν : MU, gFr [31, 32] μ ν → Q (some (gI (xCb μ (μ 25) y))) g_SH ν) : gCall g_T g_F sN sX D 55 [gR 19, gI y] g_SH μ Q := by
  have G := hH0.1.1
  obtain ⟨d, rfl⟩ := gD (show 1 ≤ D by omega)
  refine gC 300 [4] rfl ?_
  (conv => whnf); try simp only [gO, gWe, ne_eq, Nat.reduceEqDiff, not_false_eq_true, true_or, or_true, true_and]
  have key2 : ∀ (p : Int) (ν : MU), 0 ≤ p → p ≤ 20 → gFr [31, 32] μ ν → (∀ j : Int, 0 ≤ j → j < p → (0 ≤ (ν 31) j ∧ (ν 31) j < 480) ∧ 0 ≤ (ν 32) j ∧ (ν 32) j < 480) → gSum (fun i => gSum (fun j => hH ((ν 31) i) ((ν 32) i) ((ν 31) j) ((ν 32) j)) i.toNat) p.toNat = xCb μ (μ 25) y →
      ∀ e : Int, gG g_T g_F (gCall g_T g_F sN sX d) sN sX (g_T 55) Q 59 [gR 19, gI y, gI p, gI e, gN 2, gN 2] [] g_SH ν 0 0 := by
    intro p ν p0 p1 hν hbd hs e
    have out : ∀ i : Int, 1 ≤ i → i ≤ max p 1 → ∀ (jj : GV), gG g_T g_F (gCall g_T g_F sN sX d) sN sX (g_T 55) Q 64 [gR 19, gI y, gI p, gI (gSum (fun i => gSum (fun j => hH ((ν 31) i) ((ν 32) i) ((ν 31) j) ((ν 32) j)) i.toNat) i.toNat), gI i, jj] [] g_SH ν 0 0 := by
      refine g_up (fun i i0 i1 ih jj => ?_) (fun jj => ?_)
      · rw [gSum_s _ _ (by omega)] at ih
        have inn : ∀ j : Int, 0 ≤ j → j ≤ i → gG g_T g_F (gCall g_T g_F sN sX d) sN sX (g_T 55) Q 73 [gR 19, gI y, gI p, gI (gSum (fun i => gSum (fun j => hH ((ν 31) i) ((ν 32) i) ((ν 31) j) ((ν 32) j)) i.toNat) i.toNat + gSum (fun j => hH ((ν 31) i) ((ν 32) i) ((ν 31) j) ((ν 32) j)) j.toNat), gI i, gI j] [] g_SH ν 0 0 := by
          have o1 := gSum_b (f := fun i => gSum (fun j => hH ((ν 31) i) ((ν 32) i) ((ν 31) j) ((ν 32) j)) i.toNat) (a := 0) (b := 20) i.toNat (fun a a0 a1 => by
            have b := gSum_b (f := fun j => hH ((ν 31) a) ((ν 32) a) ((ν 31) j) ((ν 32) j)) (a := 0) (b := 1) a.toNat (fun j _ _ => by unfold hH; split <;> omega)
            omega)
          refine g_up (fun j j0 j1 ihj => ?_) ?_
          · rw [gSum_s _ _ j0] at ihj
            have o2 := gSum_b (f := fun j => hH ((ν 31) i) ((ν 32) i) ((ν 31) j) ((ν 32) j)) (a := 0) (b := 1) j.toNat (fun j _ _ => by unfold hH; split <;> omega)
            have b1 := hbd i (by omega) (by omega)
            have b2 := hbd j (by omega) (by omega)
            have bm : gOk (((ν 31) i - (ν 31) j) * ((ν 32) i - (ν 32) j)) := by
              have a1 : -480 ≤ (ν 31) i - (ν 31) j ∧ (ν 31) i - (ν 31) j ≤ 480 := by omega
              have a2 : -480 ≤ (ν 32) i - (ν 32) j ∧ (ν 32) i - (ν 32) j ≤ 480 := by omega
              exact g_mulb a1 a2
            refine gB_gG [73] 300 ?_
            (conv => whnf); try simp only [gO, gWe, ne_eq, Nat.reduceEqDiff, not_false_eq_true, true_or, or_true, true_and]
            repeat' (first | exact True.intro | (refine ⟨fun hb => ?_, fun hb => ?_⟩ <;> first | (exfalso; omega; done) | exact absurd True.intro hb | ((conv => whnf); try simp only [gO, gWe, ne_eq, Nat.reduceEqDiff, not_false_eq_true, true_or, or_true, true_and])) | (refine ⟨by omega, ?_⟩; (conv => whnf); try simp only [gO, gWe, ne_eq, Nat.reduceEqDiff, not_false_eq_true, true_or, or_true, true_and]) | (refine ⟨fun hb => ?_, ?_⟩ <;> first | (exfalso; omega; done) | exact absurd True.intro hb | ((conv => whnf); try simp only [gO, gWe, ne_eq, Nat.reduceEqDiff, not_false_eq_true, true_or, or_true, true_and])) | fail)
            · rw [show hH ((ν 31) i) ((ν 32) i) ((ν 31) j) ((ν 32) j) = 0 from if_neg (by omega), Int.add_zero] at ihj
              exact ihj
            · rw [show hH ((ν 31) i) ((ν 32) i) ((ν 31) j) ((ν 32) j) = 1 from if_pos (by omega), ← Int.add_assoc] at ihj
              exact ihj
          · refine gB_gG [64] 300 ?_
            (conv => whnf); try simp only [gO, gWe, ne_eq, Nat.reduceEqDiff, not_false_eq_true, true_or, or_true, true_and]
            repeat' (first | exact True.intro | (refine ⟨fun hb => ?_, fun hb => ?_⟩ <;> first | (exfalso; omega; done) | exact absurd True.intro hb | ((conv => whnf); try simp only [gO, gWe, ne_eq, Nat.reduceEqDiff, not_false_eq_true, true_or, or_true, true_and])) | (refine ⟨by omega, ?_⟩; (conv => whnf); try simp only [gO, gWe, ne_eq, Nat.reduceEqDiff, not_false_eq_true, true_or, or_true, true_and]) | (refine ⟨fun hb => ?_, ?_⟩ <;> first | (exfalso; omega; done) | exact absurd True.intro hb | ((conv => whnf); try simp only [gO, gWe, ne_eq, Nat.reduceEqDiff, not_false_eq_true, true_or, or_true, true_and])) | fail)
            exact ih (gI i)
        refine gB_gG [73] 300 ?_
        (conv => whnf); try simp only [gO, gWe, ne_eq, Nat.reduceEqDiff, not_false_eq_true, true_or, or_true, true_and]
        repeat' (first | exact True.intro | (refine ⟨fun hb => ?_, fun hb => ?_⟩ <;> first | (exfalso; omega; done) | exact absurd True.intro hb | ((conv => whnf); try simp only [gO, gWe, ne_eq, Nat.reduceEqDiff, not_false_eq_true, true_or, or_true, true_and])) | (refine ⟨by omega, ?_⟩; (conv => whnf); try simp only [gO, gWe, ne_eq, Nat.reduceEqDiff, not_false_eq_true, true_or, or_true, true_and]) | (refine ⟨fun hb => ?_, ?_⟩ <;> first | (exfalso; omega; done) | exact absurd True.intro hb | ((conv => whnf); try simp only [gO, gWe, ne_eq, Nat.reduceEqDiff, not_false_eq_true, true_or, or_true, true_and])) | fail)
        have z := inn 0 (by omega) (by omega)
        rw [show gSum (fun j => hH ((ν 31) i) ((ν 32) i) ((ν 31) j) ((ν 32) j)) (Int.toNat 0) = 0 from rfl, Int.add_zero] at z
        exact z
      · refine gB_gG [64] 300 ?_
        (conv => whnf); try simp only [gO, gWe, ne_eq, Nat.reduceEqDiff, not_false_eq_true, true_or, or_true, true_and]
        repeat' (first | exact True.intro | (refine ⟨fun hb => ?_, fun hb => ?_⟩ <;> first | (exfalso; omega; done) | exact absurd True.intro hb | ((conv => whnf); try simp only [gO, gWe, ne_eq, Nat.reduceEqDiff, not_false_eq_true, true_or, or_true, true_and])) | (refine ⟨by omega, ?_⟩; (conv => whnf); try simp only [gO, gWe, ne_eq, Nat.reduceEqDiff, not_false_eq_true, true_or, or_true, true_and]) | (refine ⟨fun hb => ?_, ?_⟩ <;> first | (exfalso; omega; done) | exact absurd True.intro hb | ((conv => whnf); try simp only [gO, gWe, ne_eq, Nat.reduceEqDiff, not_false_eq_true, true_or, or_true, true_and])) | fail)
        have hz : gSum (fun i => gSum (fun j => hH ((ν 31) i) ((ν 32) i) ((ν 31) j) ((ν 32) j)) i.toNat) (max p 1).toNat = xCb μ (μ 25) y := by
          by_cases hc : p = 0
          · rw [← hs, hc]
            rfl
          · rw [show max p 1 = p by omega]
            exact hs
        rw [hz]
        exact h ν hν
    refine gB_gG [64] 300 ?_
    (conv => whnf); try simp only [gO, gWe, ne_eq, Nat.reduceEqDiff, not_false_eq_true, true_or, or_true, true_and]
    exact out 1 (by omega) (by omega) (gN 2)
  have key : ∀ e : Int, 0 ≤ e → e ≤ (μ 1 1) → ∀ (p : Int) (ν : MU), 0 ≤ p → p ≤ e → gFr [31, 32] μ ν → (∀ j : Int, 0 ≤ j → j < p → (0 ≤ (ν 31) j ∧ (ν 31) j < 480) ∧ 0 ≤ (ν 32) j ∧ (ν 32) j < 480) →
      (∀ F : Int → Int → Int, gSum (fun j => F ((ν 31) j) ((ν 32) j)) p.toNat = gSum (fun o => if (μ 14) o ≤ y ∧ y < (μ 15) o then F (xSpot μ (μ 25) o y) (xSpot μ (μ 25) o (y + 1)) else 0) e.toNat) →
      gSum (fun i => gSum (fun j => hH ((ν 31) i) ((ν 32) i) ((ν 31) j) ((ν 32) j)) i.toNat) p.toNat = gSum (fun e => gSum (fun o => xX μ (μ 25) y e o) e.toNat) e.toNat →
      gG g_T g_F (gCall g_T g_F sN sX d) sN sX (g_T 55) Q 4 [gR 19, gI y, gI p, gI e, gN 2, gN 2] [] g_SH ν 0 0 := by
    refine g_up (fun e e0 e1 ih p ν p0 p1 hν hbd hF hs => ?_) (fun p ν p0 p1 hν hbd hF hs => ?_)
    · have st : hSt μ ν := hν.st (by decide)
      have hI : iH ν := iH_c st (hν 24 (by decide)) (hν 25 (by decide)) hH0
      have eq1 : (ν 1 1) = (μ 1 1) := by rw [st 1 (by decide) (by decide)]
      have eqs : xSpot ν (ν 25) = xSpot μ (μ 25) := by rw [xSpot_c st, hν 25 (by decide)]
      refine gB_gG [4] 300 ?_
      (conv => whnf); try simp only [gO, gWe, ne_eq, Nat.reduceEqDiff, not_false_eq_true, true_or, or_true, true_and]
      repeat' (first | exact True.intro | (refine ⟨fun hb => ?_, fun hb => ?_⟩ <;> first | (exfalso; omega; done) | exact absurd True.intro hb | ((conv => whnf); try simp only [gO, gWe, ne_eq, Nat.reduceEqDiff, not_false_eq_true, true_or, or_true, true_and])) | (refine ⟨by omega, ?_⟩; (conv => whnf); try simp only [gO, gWe, ne_eq, Nat.reduceEqDiff, not_false_eq_true, true_or, or_true, true_and]) | (refine ⟨fun hb => ?_, ?_⟩ <;> first | (exfalso; omega; done) | exact absurd True.intro hb | ((conv => whnf); try simp only [gO, gWe, ne_eq, Nat.reduceEqDiff, not_false_eq_true, true_or, or_true, true_and])) | fail)
      refine t_40 (by omega) hI.1 e0 (by omega) (fun hp => ?_) (fun hp => ?_)
      · (conv => whnf); try simp only [gO, gWe, ne_eq, Nat.reduceEqDiff, not_false_eq_true, true_or, or_true, true_and]
        repeat' (first | exact True.intro | (refine ⟨fun hb => ?_, fun hb => ?_⟩ <;> first | (exfalso; omega; done) | exact absurd True.intro hb | ((conv => whnf); try simp only [gO, gWe, ne_eq, Nat.reduceEqDiff, not_false_eq_true, true_or, or_true, true_and])) | (refine ⟨by omega, ?_⟩; (conv => whnf); try simp only [gO, gWe, ne_eq, Nat.reduceEqDiff, not_false_eq_true, true_or, or_true, true_and]) | (refine ⟨fun hb => ?_, ?_⟩ <;> first | (exfalso; omega; done) | exact absurd True.intro hb | ((conv => whnf); try simp only [gO, gWe, ne_eq, Nat.reduceEqDiff, not_false_eq_true, true_or, or_true, true_and])) | fail)
        refine t_54 (by omega) hI.1 hI.2.1 hI.2.2.1 hI.2.2.2 e0 (by omega) hp.1 (by omega) ?_
        (conv => whnf); try simp only [gO, gWe, ne_eq, Nat.reduceEqDiff, not_false_eq_true, true_or, or_true, true_and]
        repeat' (first | exact True.intro | (refine ⟨fun hb => ?_, fun hb => ?_⟩ <;> first | (exfalso; omega; done) | exact absurd True.intro hb | ((conv => whnf); try simp only [gO, gWe, ne_eq, Nat.reduceEqDiff, not_false_eq_true, true_or, or_true, true_and])) | (refine ⟨by omega, ?_⟩; (conv => whnf); try simp only [gO, gWe, ne_eq, Nat.reduceEqDiff, not_false_eq_true, true_or, or_true, true_and]) | (refine ⟨fun hb => ?_, ?_⟩ <;> first | (exfalso; omega; done) | exact absurd True.intro hb | ((conv => whnf); try simp only [gO, gWe, ne_eq, Nat.reduceEqDiff, not_false_eq_true, true_or, or_true, true_and])) | fail)
        have hν1 : gFr [31, 32] μ (gW ν 31 p (xSpot ν (ν 25) e y)) := hν.W (by decide)
        have st1 : hSt μ (gW ν 31 p (xSpot ν (ν 25) e y)) := hν1.st (by decide)
        have hI1 : iH (gW ν 31 p (xSpot ν (ν 25) e y)) := iH_c st1 (hν1 24 (by decide)) (hν1 25 (by decide)) hH0
        refine t_54 (by omega) hI1.1 hI1.2.1 hI1.2.2.1 hI1.2.2.2 e0 ?_ ?_ ?_ ?_
        · exact (by omega : e < (ν 1 1))
        · exact (by omega : (ν 14) e ≤ y + 1)
        · exact (by omega : y + 1 ≤ (ν 15) e)
        (conv => whnf); try simp only [gO, gWe, ne_eq, Nat.reduceEqDiff, not_false_eq_true, true_or, or_true, true_and]
        repeat' (first | exact True.intro | (refine ⟨fun hb => ?_, fun hb => ?_⟩ <;> first | (exfalso; omega; done) | exact absurd True.intro hb | ((conv => whnf); try simp only [gO, gWe, ne_eq, Nat.reduceEqDiff, not_false_eq_true, true_or, or_true, true_and])) | (refine ⟨by omega, ?_⟩; (conv => whnf); try simp only [gO, gWe, ne_eq, Nat.reduceEqDiff, not_false_eq_true, true_or, or_true, true_and]) | (refine ⟨fun hb => ?_, ?_⟩ <;> first | (exfalso; omega; done) | exact absurd True.intro hb | ((conv => whnf); try simp only [gO, gWe, ne_eq, Nat.reduceEqDiff, not_false_eq_true, true_or, or_true, true_and])) | fail)
        have eqs1 : xSpot (gW ν 31 p (xSpot ν (ν 25) e y)) (ν 25) = xSpot μ (μ 25) := by rw [xSpot_c st1, hν 25 (by decide)]
        rw [eqs1, eqs]
        rw [st 14 (by decide) (by decide), st 15 (by decide) (by decide)] at hp
        have s1 := xSpot_b hH0.1 hH0.2.1 hH0.2.2.1 hH0.2.2.2 e0 e1 (y := y) hp.1 (by omega)
        have s2 := xSpot_b hH0.1 hH0.2.1 hH0.2.2.1 hH0.2.2.2 e0 e1 (y := y + 1) (by omega) (by omega)
        have u1 : ∀ j : Int, gW (gW ν 31 p (xSpot μ (μ 25) e y)) 32 p (xSpot μ (μ 25) e (y + 1)) 31 j = if j = p then xSpot μ (μ 25) e y else (ν 31) j := fun j => rfl
        have u2 : ∀ j : Int, gW (gW ν 31 p (xSpot μ (μ 25) e y)) 32 p (xSpot μ (μ 25) e (y + 1)) 32 j = if j = p then xSpot μ (μ 25) e (y + 1) else (ν 32) j := fun j => rfl
        have hlt : ∀ (f g : Int → Int), (∀ j : Int, 0 ≤ j → j < p → f j = g j) → gSum f p.toNat = gSum g p.toNat := fun f g hh => gSum_c _ (fun i i0 i1 => hh i i0 (by omega))
        refine ih (p + 1) _ (by omega) (by omega) ((hν.W (by decide)).W (by decide)) (fun j j0 j1 => ?_) (fun F => ?_) ?_
        · rw [u1, u2]
          by_cases hc : j = p
          · rw [if_pos hc, if_pos hc]; omega
          · rw [if_neg hc, if_neg hc]; exact hbd j j0 (by omega)
        · rw [gSum_s _ _ p0, gSum_s _ _ e0, ← hF F, if_pos hp]
          congr 1
          · exact hlt _ _ (fun j j0 j1 => by rw [u1, u2, if_neg (by omega), if_neg (by omega)])
          · rw [u1, u2, if_pos rfl, if_pos rfl]
        · rw [gSum_s _ _ p0, gSum_s _ _ e0, ← hs]
          congr 1
          · refine hlt _ _ (fun i i0 i1 => gSum_c _ (fun j j0 j1 => ?_))
            rw [u1, u2, u1, u2, if_neg (by omega), if_neg (by omega), if_neg (by omega), if_neg (by omega)]
          · rw [u1, u2, if_pos rfl, if_pos rfl]
            have hx : gSum (fun o => xX μ (μ 25) y e o) e.toNat = gSum (fun o => if (μ 14) o ≤ y ∧ y < (μ 15) o then hH (xSpot μ (μ 25) e y) (xSpot μ (μ 25) e (y + 1)) (xSpot μ (μ 25) o y) (xSpot μ (μ 25) o (y + 1)) else 0) e.toNat := gSum_c _ (fun o o0 o1 => by
              unfold xX hH
              by_cases hc : (μ 14) o ≤ y ∧ y < (μ 15) o
              · simp only [hc, hp, true_and, and_self, if_true]
              · rw [if_neg (fun hh => hc hh.2.1), if_neg hc])
            rw [hx, ← hF (fun u l => hH (xSpot μ (μ 25) e y) (xSpot μ (μ 25) e (y + 1)) u l)]
            exact hlt _ _ (fun j j0 j1 => by rw [u1, u2, if_neg (by omega), if_neg (by omega)])
      · (conv => whnf); try simp only [gO, gWe, ne_eq, Nat.reduceEqDiff, not_false_eq_true, true_or, or_true, true_and]
        repeat' (first | exact True.intro | (refine ⟨fun hb => ?_, fun hb => ?_⟩ <;> first | (exfalso; omega; done) | exact absurd True.intro hb | ((conv => whnf); try simp only [gO, gWe, ne_eq, Nat.reduceEqDiff, not_false_eq_true, true_or, or_true, true_and])) | (refine ⟨by omega, ?_⟩; (conv => whnf); try simp only [gO, gWe, ne_eq, Nat.reduceEqDiff, not_false_eq_true, true_or, or_true, true_and]) | (refine ⟨fun hb => ?_, ?_⟩ <;> first | (exfalso; omega; done) | exact absurd True.intro hb | ((conv => whnf); try simp only [gO, gWe, ne_eq, Nat.reduceEqDiff, not_false_eq_true, true_or, or_true, true_and])) | fail)
        rw [st 14 (by decide) (by decide), st 15 (by decide) (by decide)] at hp
        refine ih p ν p0 (by omega) hν hbd (fun F => ?_) ?_
        · rw [gSum_s _ _ e0, if_neg hp, Int.add_zero]
          exact hF F
        · rw [gSum_s _ _ e0, hs]
          have hx : gSum (fun o => xX μ (μ 25) y e o) e.toNat = gSum (fun _ => 0) e.toNat := gSum_c _ (fun o o0 o1 => by
            unfold xX
            rw [if_neg (fun hh => hp hh.1)])
          have h0 := gSum_b (f := fun _ => 0) (a := 0) (b := 0) e.toNat (fun _ _ _ => by omega)
          omega
    · have st : hSt μ ν := hν.st (by decide)
      have eq1 : (ν 1 1) = (μ 1 1) := by rw [st 1 (by decide) (by decide)]
      refine gB_gG [59] 300 ?_
      (conv => whnf); try simp only [gO, gWe, ne_eq, Nat.reduceEqDiff, not_false_eq_true, true_or, or_true, true_and]
      repeat' (first | exact True.intro | (refine ⟨fun hb => ?_, fun hb => ?_⟩ <;> first | (exfalso; omega; done) | exact absurd True.intro hb | ((conv => whnf); try simp only [gO, gWe, ne_eq, Nat.reduceEqDiff, not_false_eq_true, true_or, or_true, true_and])) | (refine ⟨by omega, ?_⟩; (conv => whnf); try simp only [gO, gWe, ne_eq, Nat.reduceEqDiff, not_false_eq_true, true_or, or_true, true_and]) | (refine ⟨fun hb => ?_, ?_⟩ <;> first | (exfalso; omega; done) | exact absurd True.intro hb | ((conv => whnf); try simp only [gO, gWe, ne_eq, Nat.reduceEqDiff, not_false_eq_true, true_or, or_true, true_and])) | fail)
      exact key2 p ν p0 (by omega) hν hbd hs (μ 1 1)
  exact key 0 (by omega) (by omega) 0 μ (by omega) (by omega) gFr.rf (fun j _ _ => by omega) (fun F => rfl) rfl
