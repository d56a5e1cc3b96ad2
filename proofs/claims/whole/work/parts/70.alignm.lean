/-! aligning, in the model -/
theorem t_199l {D : Nat} (hD : 2 ≤ D) {μ : MU} {Q : GQ} {v : Int} {sq pl l : Int → Int} (hK : iK μ sq pl) (hl : ∀ k : Int, 0 ≤ k → k < (μ 19 2) → μ 62 (229 + k) = l (sq k)) (h0 : 0 ≤ v) (h1 : v < (μ 19 2)) (h : Q (some (gI (l v))) g_SH μ) : gCall g_T g_F D 199 [gR 61, gI ((μ 20) v)] g_SH μ Q := by
  have V := hK.2.1.1
  have G := hK.1.1.1
  have b := iO_v hK.1.1 hK.1.2.1 hK.2.1 hK.2.2.2.1 h0 h1
  have b1 := b.2.1
  have b2 := b.2.2.1
  have e := hl ((μ 23) ((μ 21) v) + pl v) (by omega) (by omega)
  rw [b.2.2.2] at e
  rw [← e] at h
  clear hl b e
  obtain ⟨d, rfl⟩ := gD (show 1 ≤ D by omega)
  refine gC 300 [] rfl ?_
  (conv => whnf); try simp only [gO, gWe, ne_eq, Nat.reduceEqDiff, not_false_eq_true, true_or, or_true, true_and]
  refine t_162v (by omega) hK h0 h1 ?_
  (conv => whnf); try simp only [gO, gWe, ne_eq, Nat.reduceEqDiff, not_false_eq_true, true_or, or_true, true_and]
  repeat' (first | exact True.intro | (refine ⟨fun hb => ?_, fun hb => ?_⟩ <;> first | (exfalso; omega; done) | exact absurd True.intro hb | ((conv => whnf); try simp only [gO, gWe, ne_eq, Nat.reduceEqDiff, not_false_eq_true, true_or, or_true, true_and])) | (refine ⟨by omega, ?_⟩; (conv => whnf); try simp only [gO, gWe, ne_eq, Nat.reduceEqDiff, not_false_eq_true, true_or, or_true, true_and]) | (refine ⟨fun hb => ?_, ?_⟩ <;> first | (exfalso; omega; done) | exact absurd True.intro hb | ((conv => whnf); try simp only [gO, gWe, ne_eq, Nat.reduceEqDiff, not_false_eq_true, true_or, or_true, true_and])) | fail)
  exact h
/-- the insertion -/
theorem t_200i {d : Nat} {Q : GQ} {nm y n e x : Int} {τ : MU} (nx : ∀ (ρ : MU) (k : Int), gFr [78] τ ρ → ρ 78 = insA x n.toNat (τ 78) → gG g_T g_F (gCall g_T g_F d) 0 (fun _ => 0) (g_T 200) Q 112 [gR 61, gI nm, gI y, gI (n + 1), gI e, gI x, gI k] [] g_SH ρ 0 0) (n0 : 0 ≤ n) (n1 : n ≤ 19) : gG g_T g_F (gCall g_T g_F d) 0 (fun _ => 0) (g_T 200) Q 59 [gR 61, gI nm, gI y, gI n, gI e, gI x, gI n] [] g_SH τ 0 0 := by
  have key : ∀ (k : Nat) (ρ : MU), (k : Int) ≤ 19 → (∀ (ρ' : MU) (j : Int), gFr [78] ρ ρ' → ρ' 78 = insA x k (ρ 78) → gG g_T g_F (gCall g_T g_F d) 0 (fun _ => 0) (g_T 200) Q 112 [gR 61, gI nm, gI y, gI (n + 1), gI e, gI x, gI j] [] g_SH ρ' 0 0) → gG g_T g_F (gCall g_T g_F d) 0 (fun _ => 0) (g_T 200) Q 59 [gR 61, gI nm, gI y, gI n, gI e, gI x, gI k] [] g_SH ρ 0 0 := by
    intro k
    induction k with
    | zero =>
      intro ρ hk hh
      have f := hh (gW ρ 78 0 x) 0 (gFr.rf.W (by decide)) gW_up
      clear hh nx
      show gG g_T g_F (gCall g_T g_F d) 0 (fun _ => 0) (g_T 200) Q 59 [gR 61, gI nm, gI y, gI n, gI e, gI x, gI 0] [] g_SH ρ 0 0
      refine gB_gG [59,112] 300 ?_
      (conv => whnf); try simp only [gO, gWe, ne_eq, Nat.reduceEqDiff, not_false_eq_true, true_or, or_true, true_and]
      repeat' (first | exact True.intro | (refine ⟨fun hb => ?_, fun hb => ?_⟩ <;> first | (exfalso; omega; done) | exact absurd True.intro hb | ((conv => whnf); try simp only [gO, gWe, ne_eq, Nat.reduceEqDiff, not_false_eq_true, true_or, or_true, true_and])) | (refine ⟨by omega, ?_⟩; (conv => whnf); try simp only [gO, gWe, ne_eq, Nat.reduceEqDiff, not_false_eq_true, true_or, or_true, true_and]) | (refine ⟨fun hb => ?_, ?_⟩ <;> first | (exfalso; omega; done) | exact absurd True.intro hb | ((conv => whnf); try simp only [gO, gWe, ne_eq, Nat.reduceEqDiff, not_false_eq_true, true_or, or_true, true_and])) | fail)
      exact f
    | succ k ih =>
      intro ρ hk hh
      have e2 : ((k + 1 : Nat) : Int) = (k : Int) + 1 := by omega
      have e3 : (k : Int) + 1 - 1 = k := by omega
      rw [e2]
      unfold insA at hh
      by_cases cc : x < ρ 78 k
      · rw [if_pos cc] at hh
        have f := ih (gW ρ 78 ((k : Int) + 1) (ρ 78 k)) (by omega) (fun ρ' j h1 h2 => hh ρ' j ((gFr.rf.W (by decide)).tr h1) (by rw [h2, gW_up]))
        rw [← e3] at f cc
        rw [show ((k : Int) + 1 - 1 + 1) = (k : Int) + 1 by omega] at f
        clear ih hh nx
        refine gB_gG [59,112] 300 ?_
        (conv => whnf); try simp only [gO, gWe, ne_eq, Nat.reduceEqDiff, not_false_eq_true, true_or, or_true, true_and]
        repeat' (first | exact True.intro | (refine ⟨fun hb => ?_, fun hb => ?_⟩ <;> first | (exfalso; omega; done) | exact absurd True.intro hb | ((conv => whnf); try simp only [gO, gWe, ne_eq, Nat.reduceEqDiff, not_false_eq_true, true_or, or_true, true_and])) | (refine ⟨by omega, ?_⟩; (conv => whnf); try simp only [gO, gWe, ne_eq, Nat.reduceEqDiff, not_false_eq_true, true_or, or_true, true_and]) | (refine ⟨fun hb => ?_, ?_⟩ <;> first | (exfalso; omega; done) | exact absurd True.intro hb | ((conv => whnf); try simp only [gO, gWe, ne_eq, Nat.reduceEqDiff, not_false_eq_true, true_or, or_true, true_and])) | fail)
        exact f
      · rw [if_neg cc] at hh
        have f := hh (gW ρ 78 ((k : Int) + 1) x) ((k : Int) + 1) (gFr.rf.W (by decide)) gW_up
        rw [← e3] at cc
        clear ih hh nx
        refine gB_gG [59,112] 300 ?_
        (conv => whnf); try simp only [gO, gWe, ne_eq, Nat.reduceEqDiff, not_false_eq_true, true_or, or_true, true_and]
        repeat' (first | exact True.intro | (refine ⟨fun hb => ?_, fun hb => ?_⟩ <;> first | (exfalso; omega; done) | exact absurd True.intro hb | ((conv => whnf); try simp only [gO, gWe, ne_eq, Nat.reduceEqDiff, not_false_eq_true, true_or, or_true, true_and])) | (refine ⟨by omega, ?_⟩; (conv => whnf); try simp only [gO, gWe, ne_eq, Nat.reduceEqDiff, not_false_eq_true, true_or, or_true, true_and]) | (refine ⟨fun hb => ?_, ?_⟩ <;> first | (exfalso; omega; done) | exact absurd True.intro hb | ((conv => whnf); try simp only [gO, gWe, ne_eq, Nat.reduceEqDiff, not_false_eq_true, true_or, or_true, true_and])) | fail)
        exact f
  have k := key n.toNat τ (by omega) nx
  rw [show ((n.toNat : Nat) : Int) = n by omega] at k
  exact k
theorem t_200 {D : Nat} (hD : 4 ≤ D) {μ : MU} {Q : GQ} {v y : Int} {sq pl l : Int → Int} (hK : iK μ sq pl) (hl : ∀ k : Int, 0 ≤ k → k < (μ 19 2) → μ 62 (229 + k) = l (sq k)) (hX : hLb μ l) (v0 : 0 ≤ v) (v1 : v < (μ 19 2)) (y0 : 1 ≤ y ∧ y ≤ 39) (k0 : (dF μ l v y (μ 1 1).toNat).1 = 0 → ∀ ν : MU, gFr [78] μ ν → Q (some (gI (-1))) g_SH ν) (k1 : ¬ (dF μ l v y (μ 1 1).toNat).1 = 0 → ∀ ν : MU, gFr [78] μ ν → Q (some (gI ((dF μ l v y (μ 1 1).toNat).2 (((dF μ l v y (μ 1 1).toNat).1 - 1) / 2)))) g_SH ν) : gCall g_T g_F D 200 [gR 61, gI ((μ 20) v), gI y] g_SH μ Q := by
  have hM := hK.1
  have hN := hK.2.1
  have hG := hM.1
  have hL := hM.2.1
  have G := hG.1
  have V := hN.1
  have M1 := hM.2.2.1.1.2
  have lb : ∀ e : Int, 0 ≤ e → e < (μ 1 1) → (μ 14) e ≤ y - 1 → y - 1 < (μ 15) e → 0 ≤ l (xOn μ e (y - 1)) ∧ l (xOn μ e (y - 1)) ≤ 1000 := fun e e0 e1 a b => by
    have x := (xOn_v hG hL hN e0 e1 a (by omega)).1
    exact hX _ x.1 x.2
  obtain ⟨d, rfl⟩ := gD (show 1 ≤ D by omega)
  refine gC 300 [5] rfl ?_
  (conv => whnf); try simp only [gO, gWe, ne_eq, Nat.reduceEqDiff, not_false_eq_true, true_or, or_true, true_and]
  have key : ∀ e : Int, 0 ≤ e → e ≤ (μ 1 1) → ∀ (ρ : MU) (x5 x6 : GV), gFr [78] μ ρ → (∀ j : Int, 0 ≤ j → j < (dF μ l v y e.toNat).1 → ρ 78 j = (dF μ l v y e.toNat).2 j) → gG g_T g_F (gCall g_T g_F d) 0 (fun _ => 0) (g_T 200) Q 5 [gR 61, gI ((μ 20) v), gI y, gI (dF μ l v y e.toNat).1, gI e, x5, x6] [] g_SH ρ 0 0 := by
    refine g_up (fun e e0 e1 ih ρ x5 x6 hρ hj => ?_) (fun ρ x5 x6 hρ hj => ?_)
    · have b := (dF_b (μ := μ) (l := l) (v := v) (y := y) (B := 1000) (by omega) e.toNat (fun i i0 i1 => lb i i0 (by omega))).1
      rw [show (e + 1).toNat = e.toNat + 1 by omega] at ih
      unfold dF at ih
      rw [show ((e.toNat : Nat) : Int) = e by omega] at ih
      generalize dF μ l v y e.toNat = w at *
      have sρ : hSt μ ρ := hρ.st (by decide)
      have f2 : (ρ 1 1) = (μ 1 1) := by rw [sρ 1 (by decide) (by decide)]
      have ft : (ρ 14) e = (μ 14) e := by rw [sρ 14 (by decide) (by decide)]
      have fb : (ρ 15) e = (μ 15) e := by rw [sρ 15 (by decide) (by decide)]
      have fu : (ρ 11) e = (μ 11) e := by rw [sρ 11 (by decide) (by decide)]
      have fl : (ρ 12) e = (μ 12) e := by rw [sρ 12 (by decide) (by decide)]
      have e62 : ρ 62 = μ 62 := hρ 62 (by decide)
      have z1 : ρ 62 1 = (μ 1 1) := by rw [e62]; exact M1
      have hKρ : iK ρ sq pl := iK_c sρ (hρ.sm (by decide) (by decide) (by decide)) e62 hK
      have hlρ : ∀ k : Int, 0 ≤ k → k < (ρ 19 2) → ρ 62 (229 + k) = l (sq k) := fun k k0 k1 => by
        rw [sρ 19 (by decide) (by decide)] at k1
        rw [e62]; exact hl k k0 k1
      have f20 : (ρ 20) = (μ 20) := sρ 20 (by decide) (by decide)
      have E := iE hG hL e0 e1
      have E3 := E.2.2.1
      have yy : y - 1 + 1 = y := by omega
      clear k0 k1
      by_cases c1 : (μ 14) e ≤ y - 1 ∧ y - 1 < (μ 15) e
      · have l1 := lb e e0 e1 c1.1 c1.2
        have ov := (xOn_v hG hL hN e0 e1 c1.1 (show y - 1 ≤ (μ 15) e by omega)).1
        have ow := (xOn_v hG hL hN e0 e1 (show (μ 14) e ≤ y by omega) (show y ≤ (μ 15) e by omega)).1
        have ends := xOn_u hG hL hN e0 e1 c1.1 c1.2
        rw [yy] at ends
        by_cases c2 : xOn μ e y = v
        · rw [if_pos ⟨c1, c2⟩] at ih
          have i := fun ρ' k h1 h2 => ih ρ' (gI (l (xOn μ e (y - 1)))) (gI k) (hρ.tr h1) (fun j j0 j1 => by
            have j1' : j < w.1 + 1 := j1
            have h2' : ρ' 78 = insA (l (xOn μ e (y - 1))) w.1.toNat (ρ 78) := h2
            rw [h2']
            exact insA_c (N := w.1 + 1) w.1.toNat _ _ (by omega) (fun q q0 q1 q2 => hj q q0 (by omega)) j j0 j1')
          have nmv : (μ 20) (xOn μ e y) = (μ 20) v := by rw [c2]
          have ins := t_200i (d := d) (Q := Q) (nm := (μ 20) v) (y := y) (n := w.1) (e := e) (x := l (xOn μ e (y - 1))) (τ := ρ) (fun ρ' k h1 h2 => by
            have j := i ρ' k h1 h2
            clear i ih hj ends
            refine gB_gG [5,112] 300 ?_
            (conv => whnf); try simp only [gO, gWe, ne_eq, Nat.reduceEqDiff, not_false_eq_true, true_or, or_true, true_and]
            repeat' (first | exact True.intro | (refine ⟨fun hb => ?_, fun hb => ?_⟩ <;> first | (exfalso; omega; done) | exact absurd True.intro hb | ((conv => whnf); try simp only [gO, gWe, ne_eq, Nat.reduceEqDiff, not_false_eq_true, true_or, or_true, true_and])) | (refine ⟨by omega, ?_⟩; (conv => whnf); try simp only [gO, gWe, ne_eq, Nat.reduceEqDiff, not_false_eq_true, true_or, or_true, true_and]) | (refine ⟨fun hb => ?_, ?_⟩ <;> first | (exfalso; omega; done) | exact absurd True.intro hb | ((conv => whnf); try simp only [gO, gWe, ne_eq, Nat.reduceEqDiff, not_false_eq_true, true_or, or_true, true_and])) | fail)
            exact j) b.1 (by omega)
          clear ih hj i
          refine gB_gG [5,59] 300 ?_
          (conv => whnf); try simp only [gO, gWe, ne_eq, Nat.reduceEqDiff, not_false_eq_true, true_or, or_true, true_and]
          repeat' (first | exact True.intro | (refine ⟨fun hb => ?_, fun hb => ?_⟩ <;> first | (exfalso; omega; done) | exact absurd True.intro hb | ((conv => whnf); try simp only [gO, gWe, ne_eq, Nat.reduceEqDiff, not_false_eq_true, true_or, or_true, true_and])) | (refine ⟨by omega, ?_⟩; (conv => whnf); try simp only [gO, gWe, ne_eq, Nat.reduceEqDiff, not_false_eq_true, true_or, or_true, true_and]) | (refine ⟨fun hb => ?_, ?_⟩ <;> first | (exfalso; omega; done) | exact absurd True.intro hb | ((conv => whnf); try simp only [gO, gWe, ne_eq, Nat.reduceEqDiff, not_false_eq_true, true_or, or_true, true_and])) | fail)
          refine t_172 (by omega) hKρ.1 e0 (by omega) (fun _ => ?_) (fun c => absurd (by omega) c)
          (conv => whnf); try simp only [gO, gWe, ne_eq, Nat.reduceEqDiff, not_false_eq_true, true_or, or_true, true_and]
          repeat' (first | exact True.intro | (refine ⟨fun hb => ?_, fun hb => ?_⟩ <;> first | (exfalso; omega; done) | exact absurd True.intro hb | ((conv => whnf); try simp only [gO, gWe, ne_eq, Nat.reduceEqDiff, not_false_eq_true, true_or, or_true, true_and])) | (refine ⟨by omega, ?_⟩; (conv => whnf); try simp only [gO, gWe, ne_eq, Nat.reduceEqDiff, not_false_eq_true, true_or, or_true, true_and]) | (refine ⟨fun hb => ?_, ?_⟩ <;> first | (exfalso; omega; done) | exact absurd True.intro hb | ((conv => whnf); try simp only [gO, gWe, ne_eq, Nat.reduceEqDiff, not_false_eq_true, true_or, or_true, true_and])) | fail)
          refine t_174 (by omega) hKρ.1 e0 (by omega) (by omega) ?_
          rw [yy, fb, fl, ends.2, nmv]
          (conv => whnf); try simp only [gO, gWe, ne_eq, Nat.reduceEqDiff, not_false_eq_true, true_or, or_true, true_and]
          repeat' (first | exact True.intro | (refine ⟨fun hb => ?_, fun hb => ?_⟩ <;> first | (exfalso; omega; done) | exact absurd True.intro hb | ((conv => whnf); try simp only [gO, gWe, ne_eq, Nat.reduceEqDiff, not_false_eq_true, true_or, or_true, true_and])) | (refine ⟨by omega, ?_⟩; (conv => whnf); try simp only [gO, gWe, ne_eq, Nat.reduceEqDiff, not_false_eq_true, true_or, or_true, true_and]) | (refine ⟨fun hb => ?_, ?_⟩ <;> first | (exfalso; omega; done) | exact absurd True.intro hb | ((conv => whnf); try simp only [gO, gWe, ne_eq, Nat.reduceEqDiff, not_false_eq_true, true_or, or_true, true_and])) | fail)
          refine t_173 (by omega) hKρ.1 e0 (by omega) (by omega) ?_
          rw [ft, fu, ends.1, ← f20]
          (conv => whnf); try simp only [gO, gWe, ne_eq, Nat.reduceEqDiff, not_false_eq_true, true_or, or_true, true_and]
          repeat' (first | exact True.intro | (refine ⟨fun hb => ?_, fun hb => ?_⟩ <;> first | (exfalso; omega; done) | exact absurd True.intro hb | ((conv => whnf); try simp only [gO, gWe, ne_eq, Nat.reduceEqDiff, not_false_eq_true, true_or, or_true, true_and])) | (refine ⟨by omega, ?_⟩; (conv => whnf); try simp only [gO, gWe, ne_eq, Nat.reduceEqDiff, not_false_eq_true, true_or, or_true, true_and]) | (refine ⟨fun hb => ?_, ?_⟩ <;> first | (exfalso; omega; done) | exact absurd True.intro hb | ((conv => whnf); try simp only [gO, gWe, ne_eq, Nat.reduceEqDiff, not_false_eq_true, true_or, or_true, true_and])) | fail)
          refine t_199l (by omega) hKρ hlρ ov.1 (by rw [sρ 19 (by decide) (by decide)]; exact ov.2) ?_
          rw [f20]
          (conv => whnf); try simp only [gO, gWe, ne_eq, Nat.reduceEqDiff, not_false_eq_true, true_or, or_true, true_and]
          repeat' (first | exact True.intro | (refine ⟨fun hb => ?_, fun hb => ?_⟩ <;> first | (exfalso; omega; done) | exact absurd True.intro hb | ((conv => whnf); try simp only [gO, gWe, ne_eq, Nat.reduceEqDiff, not_false_eq_true, true_or, or_true, true_and])) | (refine ⟨by omega, ?_⟩; (conv => whnf); try simp only [gO, gWe, ne_eq, Nat.reduceEqDiff, not_false_eq_true, true_or, or_true, true_and]) | (refine ⟨fun hb => ?_, ?_⟩ <;> first | (exfalso; omega; done) | exact absurd True.intro hb | ((conv => whnf); try simp only [gO, gWe, ne_eq, Nat.reduceEqDiff, not_false_eq_true, true_or, or_true, true_and])) | fail)
          exact ins
        · rw [if_neg (fun hh => c2 hh.2)] at ih
          have i := fun x5 x6 => ih ρ x5 x6 hρ hj
          have nmv : ¬ (μ 20) (xOn μ e y) = (μ 20) v := fun hh => c2 (iN_inj hG hL hN ow.1 ow.2 v0 v1 hh)
          clear ih hj
          refine gB_gG [5] 300 ?_
          (conv => whnf); try simp only [gO, gWe, ne_eq, Nat.reduceEqDiff, not_false_eq_true, true_or, or_true, true_and]
          repeat' (first | exact True.intro | (refine ⟨fun hb => ?_, fun hb => ?_⟩ <;> first | (exfalso; omega; done) | exact absurd True.intro hb | ((conv => whnf); try simp only [gO, gWe, ne_eq, Nat.reduceEqDiff, not_false_eq_true, true_or, or_true, true_and])) | (refine ⟨by omega, ?_⟩; (conv => whnf); try simp only [gO, gWe, ne_eq, Nat.reduceEqDiff, not_false_eq_true, true_or, or_true, true_and]) | (refine ⟨fun hb => ?_, ?_⟩ <;> first | (exfalso; omega; done) | exact absurd True.intro hb | ((conv => whnf); try simp only [gO, gWe, ne_eq, Nat.reduceEqDiff, not_false_eq_true, true_or, or_true, true_and])) | fail)
          refine t_172 (by omega) hKρ.1 e0 (by omega) (fun _ => ?_) (fun c => absurd (by omega) c)
          (conv => whnf); try simp only [gO, gWe, ne_eq, Nat.reduceEqDiff, not_false_eq_true, true_or, or_true, true_and]
          repeat' (first | exact True.intro | (refine ⟨fun hb => ?_, fun hb => ?_⟩ <;> first | (exfalso; omega; done) | exact absurd True.intro hb | ((conv => whnf); try simp only [gO, gWe, ne_eq, Nat.reduceEqDiff, not_false_eq_true, true_or, or_true, true_and])) | (refine ⟨by omega, ?_⟩; (conv => whnf); try simp only [gO, gWe, ne_eq, Nat.reduceEqDiff, not_false_eq_true, true_or, or_true, true_and]) | (refine ⟨fun hb => ?_, ?_⟩ <;> first | (exfalso; omega; done) | exact absurd True.intro hb | ((conv => whnf); try simp only [gO, gWe, ne_eq, Nat.reduceEqDiff, not_false_eq_true, true_or, or_true, true_and])) | fail)
          refine t_174 (by omega) hKρ.1 e0 (by omega) (by omega) ?_
          rw [yy, fb, fl, ends.2]
          clear ends
          (conv => whnf); try simp only [gO, gWe, ne_eq, Nat.reduceEqDiff, not_false_eq_true, true_or, or_true, true_and]
          repeat' (first | exact True.intro | (refine ⟨fun hb => ?_, fun hb => ?_⟩ <;> first | (exfalso; omega; done) | exact absurd True.intro hb | ((conv => whnf); try simp only [gO, gWe, ne_eq, Nat.reduceEqDiff, not_false_eq_true, true_or, or_true, true_and])) | (refine ⟨by omega, ?_⟩; (conv => whnf); try simp only [gO, gWe, ne_eq, Nat.reduceEqDiff, not_false_eq_true, true_or, or_true, true_and]) | (refine ⟨fun hb => ?_, ?_⟩ <;> first | (exfalso; omega; done) | exact absurd True.intro hb | ((conv => whnf); try simp only [gO, gWe, ne_eq, Nat.reduceEqDiff, not_false_eq_true, true_or, or_true, true_and])) | fail)
          exact i _ _
      · rw [if_neg (fun hh => c1 hh.1)] at ih
        have i := fun x5 x6 => ih ρ x5 x6 hρ hj
        clear ih hj
        refine gB_gG [5] 300 ?_
        (conv => whnf); try simp only [gO, gWe, ne_eq, Nat.reduceEqDiff, not_false_eq_true, true_or, or_true, true_and]
        repeat' (first | exact True.intro | (refine ⟨fun hb => ?_, fun hb => ?_⟩ <;> first | (exfalso; omega; done) | exact absurd True.intro hb | ((conv => whnf); try simp only [gO, gWe, ne_eq, Nat.reduceEqDiff, not_false_eq_true, true_or, or_true, true_and])) | (refine ⟨by omega, ?_⟩; (conv => whnf); try simp only [gO, gWe, ne_eq, Nat.reduceEqDiff, not_false_eq_true, true_or, or_true, true_and]) | (refine ⟨fun hb => ?_, ?_⟩ <;> first | (exfalso; omega; done) | exact absurd True.intro hb | ((conv => whnf); try simp only [gO, gWe, ne_eq, Nat.reduceEqDiff, not_false_eq_true, true_or, or_true, true_and])) | fail)
        refine t_172 (by omega) hKρ.1 e0 (by omega) (fun c => absurd (by omega) c1) (fun _ => ?_)
        (conv => whnf); try simp only [gO, gWe, ne_eq, Nat.reduceEqDiff, not_false_eq_true, true_or, or_true, true_and]
        repeat' (first | exact True.intro | (refine ⟨fun hb => ?_, fun hb => ?_⟩ <;> first | (exfalso; omega; done) | exact absurd True.intro hb | ((conv => whnf); try simp only [gO, gWe, ne_eq, Nat.reduceEqDiff, not_false_eq_true, true_or, or_true, true_and])) | (refine ⟨by omega, ?_⟩; (conv => whnf); try simp only [gO, gWe, ne_eq, Nat.reduceEqDiff, not_false_eq_true, true_or, or_true, true_and]) | (refine ⟨fun hb => ?_, ?_⟩ <;> first | (exfalso; omega; done) | exact absurd True.intro hb | ((conv => whnf); try simp only [gO, gWe, ne_eq, Nat.reduceEqDiff, not_false_eq_true, true_or, or_true, true_and])) | fail)
        exact i _ _
    · have b := dF_b (μ := μ) (l := l) (v := v) (y := y) (B := 1000) (by omega) (μ 1 1).toNat (fun i i0 i1 => lb i i0 (by omega))
      generalize dF μ l v y (μ 1 1).toNat = w at *
      have sρ : hSt μ ρ := hρ.st (by decide)
      have z1 : ρ 62 1 = (μ 1 1) := by rw [hρ 62 (by decide)]; exact M1
      have b1 := b.1
      by_cases c : w.1 = 0
      · have f := k0 c ρ hρ
        clear hj b k0 k1
        refine gB_gG [5] 300 ?_
        (conv => whnf); try simp only [gO, gWe, ne_eq, Nat.reduceEqDiff, not_false_eq_true, true_or, or_true, true_and]
        repeat' (first | exact True.intro | (refine ⟨fun hb => ?_, fun hb => ?_⟩ <;> first | (exfalso; omega; done) | exact absurd True.intro hb | ((conv => whnf); try simp only [gO, gWe, ne_eq, Nat.reduceEqDiff, not_false_eq_true, true_or, or_true, true_and])) | (refine ⟨by omega, ?_⟩; (conv => whnf); try simp only [gO, gWe, ne_eq, Nat.reduceEqDiff, not_false_eq_true, true_or, or_true, true_and]) | (refine ⟨fun hb => ?_, ?_⟩ <;> first | (exfalso; omega; done) | exact absurd True.intro hb | ((conv => whnf); try simp only [gO, gWe, ne_eq, Nat.reduceEqDiff, not_false_eq_true, true_or, or_true, true_and])) | fail)
        exact f
      · have f := k1 c ρ hρ
        have dv := g_div (a := w.1 - 1) (b := 2) (by omega) (by omega) (by omega) (by omega)
        have ll := hj ((w.1 - 1) / 2) (by omega) (by omega)
        rw [← ll, ← dv] at f
        have d0 : 0 ≤ gDiv (w.1 - 1) 2 ∧ gDiv (w.1 - 1) 2 < 20 := by rw [dv]; omega
        clear hj b ll k0 k1
        refine gB_gG [5] 300 ?_
        (conv => whnf); try simp only [gO, gWe, ne_eq, Nat.reduceEqDiff, not_false_eq_true, true_or, or_true, true_and]
        repeat' (first | exact True.intro | (refine ⟨fun hb => ?_, fun hb => ?_⟩ <;> first | (exfalso; omega; done) | exact absurd True.intro hb | ((conv => whnf); try simp only [gO, gWe, ne_eq, Nat.reduceEqDiff, not_false_eq_true, true_or, or_true, true_and])) | (refine ⟨by omega, ?_⟩; (conv => whnf); try simp only [gO, gWe, ne_eq, Nat.reduceEqDiff, not_false_eq_true, true_or, or_true, true_and]) | (refine ⟨fun hb => ?_, ?_⟩ <;> first | (exfalso; omega; done) | exact absurd True.intro hb | ((conv => whnf); try simp only [gO, gWe, ne_eq, Nat.reduceEqDiff, not_false_eq_true, true_or, or_true, true_and])) | fail)
        exact f
  exact key 0 (by omega) (by omega) μ _ _ gFr.rf (fun j j0 j1 => by have j1' : j < 0 := j1; omega)
