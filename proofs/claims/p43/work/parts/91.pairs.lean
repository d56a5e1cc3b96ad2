variable {sN : Int} {sX : Int → Int}
/-! the law's own small methods over a drawing: size, end, pairs -/
theorem r_126 {D : Nat} (hD : 1 ≤ D) {ν : MU} {Q : GQ} {a : Int} (ha : -2000000000 ≤ a ∧ a ≤ 2000000000) (h : Q (some (gI (gAbs a))) g_SH ν) : gCall g_T g_F sN sX D 126 [gI a] g_SH ν Q := by
  unfold gAbs at h
  obtain ⟨d, rfl⟩ := gD (show 1 ≤ D by omega)
  refine gC 300 [] rfl ?_
  (conv => whnf); try simp only [gO, gWe, ne_eq, Nat.reduceEqDiff, not_false_eq_true, true_or, or_true, true_and]
  repeat' (first | exact True.intro | (refine ⟨fun hb => ?_, fun hb => ?_⟩ <;> first | (exfalso; omega; done) | exact absurd True.intro hb | ((conv => whnf); try simp only [gO, gWe, ne_eq, Nat.reduceEqDiff, not_false_eq_true, true_or, or_true, true_and])) | (refine ⟨by omega, ?_⟩; (conv => whnf); try simp only [gO, gWe, ne_eq, Nat.reduceEqDiff, not_false_eq_true, true_or, or_true, true_and]) | (refine ⟨fun hb => ?_, ?_⟩ <;> first | (exfalso; omega; done) | exact absurd True.intro hb | ((conv => whnf); try simp only [gO, gWe, ne_eq, Nat.reduceEqDiff, not_false_eq_true, true_or, or_true, true_and])) | fail)
  · rw [if_pos (by omega)] at h
    exact h
  · rw [if_neg (by omega)] at h
    exact h
theorem iW_E {μ : MU} (hW : iW μ) {e : Int} (e0 : 0 ≤ e) (e1 : e < (μ 1 1)) : xRev μ e = (μ 10) e ∧ xEdge μ e ((μ 10) e) = (μ 11) e ∧ xEdge μ e (1 - (μ 10) e) = (μ 12) e ∧ xEdge μ e 4 = (μ 8) e ∧ xLay μ ((μ 11) e) = (μ 14) e ∧ xLay μ ((μ 12) e) = (μ 15) e ∧ xLen μ e = (μ 15) e - (μ 14) e := by
  have hG := hW.1.1
  have hL := hW.1.2.1
  obtain ⟨hN, hO, hC, hX⟩ := hW.1.2.2.2 hW.2
  have l1 := hW.2
  have G := hG.1
  have L := hL.2.2.2.1
  have V := hN.1
  have E := iE hG hL e0 e1
  obtain ⟨-, u⟩ := hL.1 e e0 e1
  unfold xRev xEdge xLay xLen
  rw [E.2.2.2.1.1, E.2.2.2.1.2]
  refine ⟨if_pos ⟨e0, e1⟩, (if_pos ⟨e0, e1⟩).trans ?_, (if_pos ⟨e0, e1⟩).trans ?_, (if_pos ⟨e0, e1⟩).trans rfl, if_pos E.1, if_pos E.2.1, if_pos ⟨e0, e1⟩⟩
  · rcases u with ⟨u1, u2, u3⟩ | ⟨u1, u2, u3⟩ <;> rw [u1, u2] <;> rfl
  · rcases u with ⟨u1, u2, u3⟩ | ⟨u1, u2, u3⟩ <;> rw [u1, u3] <;> rfl
section EE
variable {D : Nat} {μ ν : MU} {Q : GQ} {e : Int}
theorem e_rev (hD : 30 ≤ D) (hW : iW μ) (hν : hRd μ ν) (e0 : 0 ≤ e) (e1 : e < (μ 1 1)) (h : Q (some (gI ((μ 10) e))) g_SH ν) : gCall g_T g_F sN sX D 83 [gR 0, gI e] g_SH ν Q := r_83 hD hW hν (by rw [(iW_E hW e0 e1).1]; exact h)
theorem e_up (hD : 30 ≤ D) (hW : iW μ) (hν : hRd μ ν) (e0 : 0 ≤ e) (e1 : e < (μ 1 1)) (h : Q (some (gI ((μ 11) e))) g_SH ν) : gCall g_T g_F sN sX D 82 [gR 0, gI e, gI ((μ 10) e)] g_SH ν Q := r_82 hD hW hν (by rw [(iW_E hW e0 e1).2.1]; exact h)
theorem e_lo (hD : 30 ≤ D) (hW : iW μ) (hν : hRd μ ν) (e0 : 0 ≤ e) (e1 : e < (μ 1 1)) (h : Q (some (gI ((μ 12) e))) g_SH ν) : gCall g_T g_F sN sX D 82 [gR 0, gI e, gI (1 - (μ 10) e)] g_SH ν Q := r_82 hD hW hν (by rw [(iW_E hW e0 e1).2.2.1]; exact h)
theorem e_ls (hD : 30 ≤ D) (hW : iW μ) (hν : hRd μ ν) (e0 : 0 ≤ e) (e1 : e < (μ 1 1)) (h : Q (some (gI ((μ 8) e))) g_SH ν) : gCall g_T g_F sN sX D 82 [gR 0, gI e, gI 4] g_SH ν Q := r_82 hD hW hν (by rw [(iW_E hW e0 e1).2.2.2.1]; exact h)
theorem e_top (hD : 30 ≤ D) (hW : iW μ) (hν : hRd μ ν) (e0 : 0 ≤ e) (e1 : e < (μ 1 1)) (h : Q (some (gI ((μ 14) e))) g_SH ν) : gCall g_T g_F sN sX D 85 [gR 0, gI ((μ 11) e)] g_SH ν Q := r_85 hD hW hν (by rw [(iW_E hW e0 e1).2.2.2.2.1]; exact h)
theorem e_bot (hD : 30 ≤ D) (hW : iW μ) (hν : hRd μ ν) (e0 : 0 ≤ e) (e1 : e < (μ 1 1)) (h : Q (some (gI ((μ 15) e))) g_SH ν) : gCall g_T g_F sN sX D 85 [gR 0, gI ((μ 12) e)] g_SH ν Q := r_85 hD hW hν (by rw [(iW_E hW e0 e1).2.2.2.2.2.1]; exact h)
theorem e_len (hD : 30 ≤ D) (hW : iW μ) (hν : hRd μ ν) (e0 : 0 ≤ e) (e1 : e < (μ 1 1)) (h : Q (some (gI ((μ 15) e - (μ 14) e))) g_SH ν) : gCall g_T g_F sN sX D 86 [gR 0, gI e] g_SH ν Q := r_86 hD hW hν (by rw [(iW_E hW e0 e1).2.2.2.2.2.2]; exact h)
end EE
/-- the end of a part -/
theorem r_127_0 {D : Nat} (hD : 31 ≤ D) {μ ν : MU} {Q : GQ} {e y : Int} (hW : iW μ) (hν : hRd μ ν) (e0 : 0 ≤ e) (e1 : e < (μ 1 1)) (y0 : (μ 14) e ≤ y) (y1 : y < (μ 15) e) (h : Q (some (gI ((μ 20) (xOn μ e y)))) g_SH ν) : gCall g_T g_F sN sX D 127 [gR 0, gI e, gI y, gI 0] g_SH ν Q := by
  have hG := hW.1.1
  have hL := hW.1.2.1
  obtain ⟨hN, hO, hC, hX⟩ := hW.1.2.2.2 hW.2
  have l1 := hW.2
  have G := hG.1
  have L := hL.2.2.2.1
  have V := hN.1
  have E := iE hG hL e0 e1
  have x := (xOn_v hG hL hN e0 e1 y0 (by omega)).2.2
  rw [x] at h
  obtain ⟨d, rfl⟩ := gD (show 1 ≤ D by omega)
  refine gC 300 [] rfl ?_
  (conv => whnf); try simp only [gO, gWe, ne_eq, Nat.reduceEqDiff, not_false_eq_true, true_or, or_true, true_and]
  refine e_rev (by omega) hW hν e0 e1 ?_
  (conv => whnf); try simp only [gO, gWe, ne_eq, Nat.reduceEqDiff, not_false_eq_true, true_or, or_true, true_and]
  repeat' (first | exact True.intro | (refine ⟨fun hb => ?_, fun hb => ?_⟩ <;> first | (exfalso; omega; done) | exact absurd True.intro hb | ((conv => whnf); try simp only [gO, gWe, ne_eq, Nat.reduceEqDiff, not_false_eq_true, true_or, or_true, true_and])) | (refine ⟨by omega, ?_⟩; (conv => whnf); try simp only [gO, gWe, ne_eq, Nat.reduceEqDiff, not_false_eq_true, true_or, or_true, true_and]) | (refine ⟨fun hb => ?_, ?_⟩ <;> first | (exfalso; omega; done) | exact absurd True.intro hb | ((conv => whnf); try simp only [gO, gWe, ne_eq, Nat.reduceEqDiff, not_false_eq_true, true_or, or_true, true_and])) | fail)
  refine e_up (by omega) hW hν e0 e1 ?_
  (conv => whnf); try simp only [gO, gWe, ne_eq, Nat.reduceEqDiff, not_false_eq_true, true_or, or_true, true_and]
  repeat' (first | exact True.intro | (refine ⟨fun hb => ?_, fun hb => ?_⟩ <;> first | (exfalso; omega; done) | exact absurd True.intro hb | ((conv => whnf); try simp only [gO, gWe, ne_eq, Nat.reduceEqDiff, not_false_eq_true, true_or, or_true, true_and])) | (refine ⟨by omega, ?_⟩; (conv => whnf); try simp only [gO, gWe, ne_eq, Nat.reduceEqDiff, not_false_eq_true, true_or, or_true, true_and]) | (refine ⟨fun hb => ?_, ?_⟩ <;> first | (exfalso; omega; done) | exact absurd True.intro hb | ((conv => whnf); try simp only [gO, gWe, ne_eq, Nat.reduceEqDiff, not_false_eq_true, true_or, or_true, true_and])) | fail)
  refine e_lo (by omega) hW hν e0 e1 ?_
  (conv => whnf); try simp only [gO, gWe, ne_eq, Nat.reduceEqDiff, not_false_eq_true, true_or, or_true, true_and]
  repeat' (first | exact True.intro | (refine ⟨fun hb => ?_, fun hb => ?_⟩ <;> first | (exfalso; omega; done) | exact absurd True.intro hb | ((conv => whnf); try simp only [gO, gWe, ne_eq, Nat.reduceEqDiff, not_false_eq_true, true_or, or_true, true_and])) | (refine ⟨by omega, ?_⟩; (conv => whnf); try simp only [gO, gWe, ne_eq, Nat.reduceEqDiff, not_false_eq_true, true_or, or_true, true_and]) | (refine ⟨fun hb => ?_, ?_⟩ <;> first | (exfalso; omega; done) | exact absurd True.intro hb | ((conv => whnf); try simp only [gO, gWe, ne_eq, Nat.reduceEqDiff, not_false_eq_true, true_or, or_true, true_and])) | fail)
  refine e_top (by omega) hW hν e0 e1 ?_
  (conv => whnf); try simp only [gO, gWe, ne_eq, Nat.reduceEqDiff, not_false_eq_true, true_or, or_true, true_and]
  repeat' (first | exact True.intro | (refine ⟨fun hb => ?_, fun hb => ?_⟩ <;> first | (exfalso; omega; done) | exact absurd True.intro hb | ((conv => whnf); try simp only [gO, gWe, ne_eq, Nat.reduceEqDiff, not_false_eq_true, true_or, or_true, true_and])) | (refine ⟨by omega, ?_⟩; (conv => whnf); try simp only [gO, gWe, ne_eq, Nat.reduceEqDiff, not_false_eq_true, true_or, or_true, true_and]) | (refine ⟨fun hb => ?_, ?_⟩ <;> first | (exfalso; omega; done) | exact absurd True.intro hb | ((conv => whnf); try simp only [gO, gWe, ne_eq, Nat.reduceEqDiff, not_false_eq_true, true_or, or_true, true_and])) | fail)
  · rw [if_neg (by omega), if_neg (by omega)] at h
    exact h
  · rw [if_pos (by omega)] at h
    exact h
theorem r_127_1 {D : Nat} (hD : 31 ≤ D) {μ ν : MU} {Q : GQ} {e y : Int} (hW : iW μ) (hν : hRd μ ν) (e0 : 0 ≤ e) (e1 : e < (μ 1 1)) (y0 : (μ 14) e ≤ y) (y1 : y < (μ 15) e) (h : Q (some (gI ((μ 20) (xOn μ e (y + 1))))) g_SH ν) : gCall g_T g_F sN sX D 127 [gR 0, gI e, gI y, gI 1] g_SH ν Q := by
  have hG := hW.1.1
  have hL := hW.1.2.1
  obtain ⟨hN, hO, hC, hX⟩ := hW.1.2.2.2 hW.2
  have l1 := hW.2
  have G := hG.1
  have L := hL.2.2.2.1
  have V := hN.1
  have E := iE hG hL e0 e1
  have x := (xOn_v hG hL hN e0 e1 (y := y + 1) (by omega) (by omega)).2.2
  rw [x] at h
  obtain ⟨d, rfl⟩ := gD (show 1 ≤ D by omega)
  refine gC 300 [] rfl ?_
  (conv => whnf); try simp only [gO, gWe, ne_eq, Nat.reduceEqDiff, not_false_eq_true, true_or, or_true, true_and]
  refine e_rev (by omega) hW hν e0 e1 ?_
  (conv => whnf); try simp only [gO, gWe, ne_eq, Nat.reduceEqDiff, not_false_eq_true, true_or, or_true, true_and]
  repeat' (first | exact True.intro | (refine ⟨fun hb => ?_, fun hb => ?_⟩ <;> first | (exfalso; omega; done) | exact absurd True.intro hb | ((conv => whnf); try simp only [gO, gWe, ne_eq, Nat.reduceEqDiff, not_false_eq_true, true_or, or_true, true_and])) | (refine ⟨by omega, ?_⟩; (conv => whnf); try simp only [gO, gWe, ne_eq, Nat.reduceEqDiff, not_false_eq_true, true_or, or_true, true_and]) | (refine ⟨fun hb => ?_, ?_⟩ <;> first | (exfalso; omega; done) | exact absurd True.intro hb | ((conv => whnf); try simp only [gO, gWe, ne_eq, Nat.reduceEqDiff, not_false_eq_true, true_or, or_true, true_and])) | fail)
  refine e_up (by omega) hW hν e0 e1 ?_
  (conv => whnf); try simp only [gO, gWe, ne_eq, Nat.reduceEqDiff, not_false_eq_true, true_or, or_true, true_and]
  repeat' (first | exact True.intro | (refine ⟨fun hb => ?_, fun hb => ?_⟩ <;> first | (exfalso; omega; done) | exact absurd True.intro hb | ((conv => whnf); try simp only [gO, gWe, ne_eq, Nat.reduceEqDiff, not_false_eq_true, true_or, or_true, true_and])) | (refine ⟨by omega, ?_⟩; (conv => whnf); try simp only [gO, gWe, ne_eq, Nat.reduceEqDiff, not_false_eq_true, true_or, or_true, true_and]) | (refine ⟨fun hb => ?_, ?_⟩ <;> first | (exfalso; omega; done) | exact absurd True.intro hb | ((conv => whnf); try simp only [gO, gWe, ne_eq, Nat.reduceEqDiff, not_false_eq_true, true_or, or_true, true_and])) | fail)
  refine e_lo (by omega) hW hν e0 e1 ?_
  (conv => whnf); try simp only [gO, gWe, ne_eq, Nat.reduceEqDiff, not_false_eq_true, true_or, or_true, true_and]
  repeat' (first | exact True.intro | (refine ⟨fun hb => ?_, fun hb => ?_⟩ <;> first | (exfalso; omega; done) | exact absurd True.intro hb | ((conv => whnf); try simp only [gO, gWe, ne_eq, Nat.reduceEqDiff, not_false_eq_true, true_or, or_true, true_and])) | (refine ⟨by omega, ?_⟩; (conv => whnf); try simp only [gO, gWe, ne_eq, Nat.reduceEqDiff, not_false_eq_true, true_or, or_true, true_and]) | (refine ⟨fun hb => ?_, ?_⟩ <;> first | (exfalso; omega; done) | exact absurd True.intro hb | ((conv => whnf); try simp only [gO, gWe, ne_eq, Nat.reduceEqDiff, not_false_eq_true, true_or, or_true, true_and])) | fail)
  refine e_bot (by omega) hW hν e0 e1 ?_
  (conv => whnf); try simp only [gO, gWe, ne_eq, Nat.reduceEqDiff, not_false_eq_true, true_or, or_true, true_and]
  repeat' (first | exact True.intro | (refine ⟨fun hb => ?_, fun hb => ?_⟩ <;> first | (exfalso; omega; done) | exact absurd True.intro hb | ((conv => whnf); try simp only [gO, gWe, ne_eq, Nat.reduceEqDiff, not_false_eq_true, true_or, or_true, true_and])) | (refine ⟨by omega, ?_⟩; (conv => whnf); try simp only [gO, gWe, ne_eq, Nat.reduceEqDiff, not_false_eq_true, true_or, or_true, true_and]) | (refine ⟨fun hb => ?_, ?_⟩ <;> first | (exfalso; omega; done) | exact absurd True.intro hb | ((conv => whnf); try simp only [gO, gWe, ne_eq, Nat.reduceEqDiff, not_false_eq_true, true_or, or_true, true_and])) | fail)
  · rw [if_neg (by omega), if_neg (by omega), ← Int.add_assoc] at h
    exact h
  · rw [if_neg (by omega), if_pos (by omega)] at h
    exact h
/-! crossings by pairs -/
theorem xX_s {μ : MU} {pl : Int → Int} {y e o : Int} : xX μ pl y e o = xX μ pl y o e := by
  unfold xX
  have k : (xSpot μ pl e y - xSpot μ pl o y) * (xSpot μ pl e (y + 1) - xSpot μ pl o (y + 1)) = (xSpot μ pl o y - xSpot μ pl e y) * (xSpot μ pl o (y + 1) - xSpot μ pl e (y + 1)) := by
    rw [← Int.neg_sub (xSpot μ pl o y), ← Int.neg_sub (xSpot μ pl o (y + 1)), Int.neg_mul_neg]
  rw [k]
  clear k
  by_cases c : ((μ 14) e ≤ y ∧ y < (μ 15) e) ∧ ((μ 14) o ≤ y ∧ y < (μ 15) o) ∧ (xSpot μ pl o y - xSpot μ pl e y) * (xSpot μ pl o (y + 1) - xSpot μ pl e (y + 1)) < 0
  · exact (if_pos c).trans (if_pos ⟨c.2.1, c.1, c.2.2⟩).symm
  · exact (if_neg c).trans (if_neg (fun d => c ⟨d.2.1, d.1, d.2.2⟩)).symm
theorem xBt_s {μ : MU} {e o : Int} : xBt μ e o = xBt μ o e := gSum_c _ (fun _ _ _ => xX_s)
theorem xBt_b {μ : MU} (hL : iL μ) {e o : Int} : 0 ≤ xBt μ e o ∧ xBt μ e o ≤ 34 := by
  have L := hL.2.2.2.1
  have a := gSum_b (f := fun y => xX μ (μ 25) y e o) (a := 0) (b := 1) ((μ 9 1) - 1).toNat (fun i _ _ => xX_b)
  unfold xBt
  omega
theorem gSum_zr (n : Nat) : gSum (fun _ => 0) n = 0 := by
  have := gSum_b (f := fun _ => 0) (a := 0) (b := 0) n (fun _ _ _ => ⟨Int.le_refl _, Int.le_refl _⟩)
  omega
theorem gSum_sw (F : Int → Int → Int) (m : Nat) : ∀ n : Nat, gSum (fun i => gSum (fun j => F i j) m) n = gSum (fun j => gSum (fun i => F i j) n) m := by
  intro n
  induction n with
  | zero => exact (gSum_zr m).symm
  | succ n ih =>
    rw [gSum, ih, ← gSum_a]
    rfl
def xPr (μ : MU) : Int := gSum (fun e => gSum (fun o => xBt μ e o) e.toNat) (μ 1 1).toNat
theorem xPr_e (μ : MU) : xPr μ = xCa μ (μ 25) := by
  unfold xPr xCa xCb
  rw [gSum_sw (fun y e => gSum (fun o => xX μ (μ 25) y e o) e.toNat)]
  refine gSum_c _ (fun e _ _ => ?_)
  unfold xBt
  exact gSum_sw (fun o y => xX μ (μ 25) y e o) _ _
theorem r_129 {D : Nat} (hD : 31 ≤ D) {μ ν : MU} {Q : GQ} (hW : iW μ) (hν : hRd μ ν) (h : Q (some (gI (xPr μ))) g_SH ν) : gCall g_T g_F sN sX D 129 [gR 0] g_SH ν Q := by
  have hG := hW.1.1
  have hL := hW.1.2.1
  obtain ⟨hN, hO, hC, hX⟩ := hW.1.2.2.2 hW.2
  have l1 := hW.2
  have G := hG.1
  have L := hL.2.2.2.1
  have V := hN.1
  have bi : ∀ e o : Int, 0 ≤ e → e ≤ 20 → 0 ≤ o → o ≤ e → 0 ≤ gSum (fun o => xBt μ e o) o.toNat ∧ gSum (fun o => xBt μ e o) o.toNat ≤ 680 := fun e o _ _ _ _ => by
    have a := gSum_b (f := fun o => xBt μ e o) (a := 0) (b := 34) o.toNat (fun i _ _ => xBt_b hL)
    omega
  have bo : ∀ e : Int, 0 ≤ e → e ≤ (μ 1 1) → 0 ≤ gSum (fun e => gSum (fun o => xBt μ e o) e.toNat) e.toNat ∧ gSum (fun e => gSum (fun o => xBt μ e o) e.toNat) e.toNat ≤ 13600 := fun e e0 e1 => by
    have a := gSum_b (f := fun e => gSum (fun o => xBt μ e o) e.toNat) (a := 0) (b := 680) e.toNat (fun i i0 i1 => bi i i i0 (by omega) i0 (by omega))
    omega
  obtain ⟨d, rfl⟩ := gD (show 1 ≤ D by omega)
  refine gC 300 [4] rfl ?_
  (conv => whnf); try simp only [gO, gWe, ne_eq, Nat.reduceEqDiff, not_false_eq_true, true_or, or_true, true_and]
  have key : ∀ e : Int, 0 ≤ e → e ≤ (μ 1 1) → ∀ x : GV, gG g_T g_F (gCall g_T g_F sN sX d) sN sX (g_T 129) Q 4 [gR 0, gI (gSum (fun e => gSum (fun o => xBt μ e o) e.toNat) e.toNat), gI e, x] [] g_SH ν 0 0 := by
    refine g_up (fun e e0 e1 ih x => ?_) (fun x => ?_)
    · refine gB_gG [14] 300 ?_
      (conv => whnf); try simp only [gO, gWe, ne_eq, Nat.reduceEqDiff, not_false_eq_true, true_or, or_true, true_and]
      refine r_81 (by omega) hν ?_
      (conv => whnf); try simp only [gO, gWe, ne_eq, Nat.reduceEqDiff, not_false_eq_true, true_or, or_true, true_and]
      repeat' (first | exact True.intro | (refine ⟨fun hb => ?_, fun hb => ?_⟩ <;> first | (exfalso; omega; done) | exact absurd True.intro hb | ((conv => whnf); try simp only [gO, gWe, ne_eq, Nat.reduceEqDiff, not_false_eq_true, true_or, or_true, true_and])) | (refine ⟨by omega, ?_⟩; (conv => whnf); try simp only [gO, gWe, ne_eq, Nat.reduceEqDiff, not_false_eq_true, true_or, or_true, true_and]) | (refine ⟨fun hb => ?_, ?_⟩ <;> first | (exfalso; omega; done) | exact absurd True.intro hb | ((conv => whnf); try simp only [gO, gWe, ne_eq, Nat.reduceEqDiff, not_false_eq_true, true_or, or_true, true_and])) | fail)
      have inner : ∀ o : Int, 0 ≤ o → o ≤ e → gG g_T g_F (gCall g_T g_F sN sX d) sN sX (g_T 129) Q 14 [gR 0, gI (gSum (fun e => gSum (fun o => xBt μ e o) e.toNat) e.toNat + gSum (fun o => xBt μ e o) o.toNat), gI e, gI o] [] g_SH ν 0 0 := by
        refine g_up (fun o o0 o1 ih2 => ?_) ?_
        · have a1 := bi e o e0 (by omega) o0 (by omega)
          have a2 := bo e e0 (by omega)
          have a3 := xBt_b (e := e) (o := o) hL
          rw [gSum_s _ o o0, ← Int.add_assoc] at ih2
          refine gB_gG [14] 300 ?_
          (conv => whnf); try simp only [gO, gWe, ne_eq, Nat.reduceEqDiff, not_false_eq_true, true_or, or_true, true_and]
          repeat' (first | exact True.intro | (refine ⟨fun hb => ?_, fun hb => ?_⟩ <;> first | (exfalso; omega; done) | exact absurd True.intro hb | ((conv => whnf); try simp only [gO, gWe, ne_eq, Nat.reduceEqDiff, not_false_eq_true, true_or, or_true, true_and])) | (refine ⟨by omega, ?_⟩; (conv => whnf); try simp only [gO, gWe, ne_eq, Nat.reduceEqDiff, not_false_eq_true, true_or, or_true, true_and]) | (refine ⟨fun hb => ?_, ?_⟩ <;> first | (exfalso; omega; done) | exact absurd True.intro hb | ((conv => whnf); try simp only [gO, gWe, ne_eq, Nat.reduceEqDiff, not_false_eq_true, true_or, or_true, true_and])) | fail)
          refine r_95 (by omega) hW hν e0 e1 o0 (by omega) (by omega) ?_
          (conv => whnf); try simp only [gO, gWe, ne_eq, Nat.reduceEqDiff, not_false_eq_true, true_or, or_true, true_and]
          repeat' (first | exact True.intro | (refine ⟨fun hb => ?_, fun hb => ?_⟩ <;> first | (exfalso; omega; done) | exact absurd True.intro hb | ((conv => whnf); try simp only [gO, gWe, ne_eq, Nat.reduceEqDiff, not_false_eq_true, true_or, or_true, true_and])) | (refine ⟨by omega, ?_⟩; (conv => whnf); try simp only [gO, gWe, ne_eq, Nat.reduceEqDiff, not_false_eq_true, true_or, or_true, true_and]) | (refine ⟨fun hb => ?_, ?_⟩ <;> first | (exfalso; omega; done) | exact absurd True.intro hb | ((conv => whnf); try simp only [gO, gWe, ne_eq, Nat.reduceEqDiff, not_false_eq_true, true_or, or_true, true_and])) | fail)
          refine r_95 (by omega) hW hν o0 (by omega) e0 e1 (by omega) ?_
          (conv => whnf); try simp only [gO, gWe, ne_eq, Nat.reduceEqDiff, not_false_eq_true, true_or, or_true, true_and]
          repeat' (first | exact True.intro | (refine ⟨fun hb => ?_, fun hb => ?_⟩ <;> first | (exfalso; omega; done) | exact absurd True.intro hb | ((conv => whnf); try simp only [gO, gWe, ne_eq, Nat.reduceEqDiff, not_false_eq_true, true_or, or_true, true_and])) | (refine ⟨by omega, ?_⟩; (conv => whnf); try simp only [gO, gWe, ne_eq, Nat.reduceEqDiff, not_false_eq_true, true_or, or_true, true_and]) | (refine ⟨fun hb => ?_, ?_⟩ <;> first | (exfalso; omega; done) | exact absurd True.intro hb | ((conv => whnf); try simp only [gO, gWe, ne_eq, Nat.reduceEqDiff, not_false_eq_true, true_or, or_true, true_and])) | fail)
          · exact absurd xBt_s hb
          · refine r_95 (by omega) hW hν e0 e1 o0 (by omega) (by omega) ?_
            (conv => whnf); try simp only [gO, gWe, ne_eq, Nat.reduceEqDiff, not_false_eq_true, true_or, or_true, true_and]
            repeat' (first | exact True.intro | (refine ⟨fun hb => ?_, fun hb => ?_⟩ <;> first | (exfalso; omega; done) | exact absurd True.intro hb | ((conv => whnf); try simp only [gO, gWe, ne_eq, Nat.reduceEqDiff, not_false_eq_true, true_or, or_true, true_and])) | (refine ⟨by omega, ?_⟩; (conv => whnf); try simp only [gO, gWe, ne_eq, Nat.reduceEqDiff, not_false_eq_true, true_or, or_true, true_and]) | (refine ⟨fun hb => ?_, ?_⟩ <;> first | (exfalso; omega; done) | exact absurd True.intro hb | ((conv => whnf); try simp only [gO, gWe, ne_eq, Nat.reduceEqDiff, not_false_eq_true, true_or, or_true, true_and])) | fail)
            exact ih2
        · have a1 := bi e e e0 (by omega) e0 (by omega)
          have i2 := ih (gI e)
          rw [gSum_s _ e e0] at i2
          refine gB_gG [4] 300 ?_
          (conv => whnf); try simp only [gO, gWe, ne_eq, Nat.reduceEqDiff, not_false_eq_true, true_or, or_true, true_and]
          repeat' (first | exact True.intro | (refine ⟨fun hb => ?_, fun hb => ?_⟩ <;> first | (exfalso; omega; done) | exact absurd True.intro hb | ((conv => whnf); try simp only [gO, gWe, ne_eq, Nat.reduceEqDiff, not_false_eq_true, true_or, or_true, true_and])) | (refine ⟨by omega, ?_⟩; (conv => whnf); try simp only [gO, gWe, ne_eq, Nat.reduceEqDiff, not_false_eq_true, true_or, or_true, true_and]) | (refine ⟨fun hb => ?_, ?_⟩ <;> first | (exfalso; omega; done) | exact absurd True.intro hb | ((conv => whnf); try simp only [gO, gWe, ne_eq, Nat.reduceEqDiff, not_false_eq_true, true_or, or_true, true_and])) | fail)
          exact i2
      have i0 := inner 0 (by omega) (by omega)
      rw [show gSum (fun o => xBt μ e o) (0 : Int).toNat = 0 from rfl, Int.add_zero] at i0
      exact i0
    · refine gB_gG [14] 300 ?_
      (conv => whnf); try simp only [gO, gWe, ne_eq, Nat.reduceEqDiff, not_false_eq_true, true_or, or_true, true_and]
      refine r_81 (by omega) hν ?_
      (conv => whnf); try simp only [gO, gWe, ne_eq, Nat.reduceEqDiff, not_false_eq_true, true_or, or_true, true_and]
      repeat' (first | exact True.intro | (refine ⟨fun hb => ?_, fun hb => ?_⟩ <;> first | (exfalso; omega; done) | exact absurd True.intro hb | ((conv => whnf); try simp only [gO, gWe, ne_eq, Nat.reduceEqDiff, not_false_eq_true, true_or, or_true, true_and])) | (refine ⟨by omega, ?_⟩; (conv => whnf); try simp only [gO, gWe, ne_eq, Nat.reduceEqDiff, not_false_eq_true, true_or, or_true, true_and]) | (refine ⟨fun hb => ?_, ?_⟩ <;> first | (exfalso; omega; done) | exact absurd True.intro hb | ((conv => whnf); try simp only [gO, gWe, ne_eq, Nat.reduceEqDiff, not_false_eq_true, true_or, or_true, true_and])) | fail)
      exact h
  exact key 0 (by omega) (by omega) _
