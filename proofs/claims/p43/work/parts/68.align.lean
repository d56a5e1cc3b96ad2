variable {sN : Int} {sX : Int → Int}
/-! aligning, in the class -/
def insA (x : Int) : Nat → (Int → Int) → Int → Int
  | 0, a => gUp a 0 x
  | k + 1, a => if x < a k then insA x k (gUp a ((k : Int) + 1) (a k)) else gUp a ((k : Int) + 1) x
theorem insA_c {x N : Int} : ∀ (k : Nat) (a b : Int → Int), (k : Int) < N → (∀ j : Int, 0 ≤ j → j < N → j ≠ k → a j = b j) → ∀ j : Int, 0 ≤ j → j < N → insA x k a j = insA x k b j := by
  intro k
  induction k with
  | zero =>
    intro a b hk h j j0 j1
    show gUp a 0 x j = gUp b 0 x j
    by_cases c : j = 0
    · rw [c, gUp_e, gUp_e]
    · rw [gUp_n c, gUp_n c]; exact h j j0 j1 c
  | succ k ih =>
    intro a b hk h j j0 j1
    have e : a k = b k := h k (by omega) (by omega) (by omega)
    unfold insA
    rw [e]
    by_cases c : x < b k
    · rw [if_pos c, if_pos c]
      refine ih _ _ (by omega) (fun i i0 i1 i2 => ?_) j j0 j1
      by_cases d : i = (k : Int) + 1
      · rw [d, gUp_e, gUp_e]
      · rw [gUp_n d, gUp_n d]; exact h i i0 i1 (by omega)
    · rw [if_neg c, if_neg c]
      by_cases d : j = (k : Int) + 1
      · rw [d, gUp_e, gUp_e]
      · rw [gUp_n d, gUp_n d]; exact h j j0 j1 (by omega)
theorem insA_b {x B N : Int} (hx : 0 ≤ x ∧ x ≤ B) : ∀ (k : Nat) (a : Int → Int), (k : Int) < N → (∀ j : Int, 0 ≤ j → j < N → j ≠ k → 0 ≤ a j ∧ a j ≤ B) → ∀ j : Int, 0 ≤ j → j < N → 0 ≤ insA x k a j ∧ insA x k a j ≤ B := by
  intro k
  induction k with
  | zero =>
    intro a hk h j j0 j1
    show 0 ≤ gUp a 0 x j ∧ gUp a 0 x j ≤ B
    by_cases c : j = 0
    · rw [c, gUp_e]; exact hx
    · rw [gUp_n c]; exact h j j0 j1 c
  | succ k ih =>
    intro a hk h j j0 j1
    unfold insA
    by_cases c : x < a k
    · rw [if_pos c]
      refine ih _ (by omega) (fun i i0 i1 i2 => ?_) j j0 j1
      by_cases d : i = (k : Int) + 1
      · rw [d, gUp_e]; exact h k (by omega) (by omega) (by omega)
      · rw [gUp_n d]; exact h i i0 i1 (by omega)
    · rw [if_neg c]
      by_cases d : j = (k : Int) + 1
      · rw [d, gUp_e]; exact hx
      · rw [gUp_n d]; exact h j j0 j1 (by omega)
theorem t_4 {D : Nat} (hD : 1 ≤ D) {μ : MU} {Q : GQ} {c : Nat} {x : Int} (hc : (c : Int) ≤ 19) (h : ∀ ν : MU, gFr [35] μ ν → (ν 35) = insA x c (μ 35) → Q none g_SH ν) : gCall g_T g_F sN sX D 4 [gR 33, gI c, gI x] g_SH μ Q := by
  obtain ⟨d, rfl⟩ := gD (show 1 ≤ D by omega)
  refine gC 300 [7] rfl ?_
  (conv => whnf); try simp only [gO, gWe, ne_eq, Nat.reduceEqDiff, not_false_eq_true, true_or, or_true, true_and]
  repeat' (first | exact True.intro | (refine ⟨fun hb => ?_, fun hb => ?_⟩ <;> first | (exfalso; omega; done) | exact absurd True.intro hb | ((conv => whnf); try simp only [gO, gWe, ne_eq, Nat.reduceEqDiff, not_false_eq_true, true_or, or_true, true_and])) | (refine ⟨by omega, ?_⟩; (conv => whnf); try simp only [gO, gWe, ne_eq, Nat.reduceEqDiff, not_false_eq_true, true_or, or_true, true_and]) | (refine ⟨fun hb => ?_, ?_⟩ <;> first | (exfalso; omega; done) | exact absurd True.intro hb | ((conv => whnf); try simp only [gO, gWe, ne_eq, Nat.reduceEqDiff, not_false_eq_true, true_or, or_true, true_and])) | fail)
  have key : ∀ (k : Nat) (ρ : MU), (k : Int) ≤ 19 → (∀ ν : MU, gFr [35] ρ ν → (ν 35) = insA x k (ρ 35) → Q none g_SH ν) → gG g_T g_F (gCall g_T g_F sN sX d) sN sX (g_T 4) Q 7 [gR 33, gI c, gI x, gI k, gI (k - 1)] [] g_SH ρ 0 0 := by
    intro k
    induction k with
    | zero =>
      intro ρ hk hh
      have f := hh (gW ρ 35 0 x) (gFr.rf.W (by decide)) gW_up
      clear hh h
      show gG g_T g_F (gCall g_T g_F sN sX d) sN sX (g_T 4) Q 7 [gR 33, gI c, gI x, gI 0, gI (0 - 1)] [] g_SH ρ 0 0
      refine gB_gG [7] 300 ?_
      (conv => whnf); try simp only [gO, gWe, ne_eq, Nat.reduceEqDiff, not_false_eq_true, true_or, or_true, true_and]
      repeat' (first | exact True.intro | (refine ⟨fun hb => ?_, fun hb => ?_⟩ <;> first | (exfalso; omega; done) | exact absurd True.intro hb | ((conv => whnf); try simp only [gO, gWe, ne_eq, Nat.reduceEqDiff, not_false_eq_true, true_or, or_true, true_and])) | (refine ⟨by omega, ?_⟩; (conv => whnf); try simp only [gO, gWe, ne_eq, Nat.reduceEqDiff, not_false_eq_true, true_or, or_true, true_and]) | (refine ⟨fun hb => ?_, ?_⟩ <;> first | (exfalso; omega; done) | exact absurd True.intro hb | ((conv => whnf); try simp only [gO, gWe, ne_eq, Nat.reduceEqDiff, not_false_eq_true, true_or, or_true, true_and])) | fail)
      exact f
    | succ k ih =>
      intro ρ hk hh
      have e : (((k + 1 : Nat) : Int) - 1) = k := by omega
      have e2 : ((k + 1 : Nat) : Int) = (k : Int) + 1 := by omega
      rw [e, e2]
      unfold insA at hh
      by_cases cc : x < (ρ 35) k
      · rw [if_pos cc] at hh
        have f := ih (gW ρ 35 ((k : Int) + 1) ((ρ 35) k)) (by omega) (fun ν hν he => hh ν ((gFr.rf.W (by decide)).tr hν) (by rw [he, gW_up]))
        clear ih hh h
        refine gB_gG [7] 300 ?_
        (conv => whnf); try simp only [gO, gWe, ne_eq, Nat.reduceEqDiff, not_false_eq_true, true_or, or_true, true_and]
        repeat' (first | exact True.intro | (refine ⟨fun hb => ?_, fun hb => ?_⟩ <;> first | (exfalso; omega; done) | exact absurd True.intro hb | ((conv => whnf); try simp only [gO, gWe, ne_eq, Nat.reduceEqDiff, not_false_eq_true, true_or, or_true, true_and])) | (refine ⟨by omega, ?_⟩; (conv => whnf); try simp only [gO, gWe, ne_eq, Nat.reduceEqDiff, not_false_eq_true, true_or, or_true, true_and]) | (refine ⟨fun hb => ?_, ?_⟩ <;> first | (exfalso; omega; done) | exact absurd True.intro hb | ((conv => whnf); try simp only [gO, gWe, ne_eq, Nat.reduceEqDiff, not_false_eq_true, true_or, or_true, true_and])) | fail)
        exact f
      · rw [if_neg cc] at hh
        have f := hh (gW ρ 35 ((k : Int) + 1) x) (gFr.rf.W (by decide)) gW_up
        clear ih hh h
        refine gB_gG [7] 300 ?_
        (conv => whnf); try simp only [gO, gWe, ne_eq, Nat.reduceEqDiff, not_false_eq_true, true_or, or_true, true_and]
        repeat' (first | exact True.intro | (refine ⟨fun hb => ?_, fun hb => ?_⟩ <;> first | (exfalso; omega; done) | exact absurd True.intro hb | ((conv => whnf); try simp only [gO, gWe, ne_eq, Nat.reduceEqDiff, not_false_eq_true, true_or, or_true, true_and])) | (refine ⟨by omega, ?_⟩; (conv => whnf); try simp only [gO, gWe, ne_eq, Nat.reduceEqDiff, not_false_eq_true, true_or, or_true, true_and]) | (refine ⟨fun hb => ?_, ?_⟩ <;> first | (exfalso; omega; done) | exact absurd True.intro hb | ((conv => whnf); try simp only [gO, gWe, ne_eq, Nat.reduceEqDiff, not_false_eq_true, true_or, or_true, true_and])) | fail)
        exact f
  exact key c μ hc h
/-- the upper neighbours' coordinates of a vertex, sorted: how many, and which -/
def dF (μ : MU) (l : Int → Int) (v y : Int) : Nat → Int × (Int → Int)
  | 0 => (0, fun _ => 0)
  | e + 1 => if ((μ 14) e ≤ y - 1 ∧ y - 1 < (μ 15) e) ∧ xOn μ e y = v then ((dF μ l v y e).1 + 1, insA (l (xOn μ e (y - 1))) (dF μ l v y e).1.toNat (dF μ l v y e).2) else dF μ l v y e
theorem dF_b {μ : MU} {l : Int → Int} {v y B : Int} (hB : 0 ≤ B) : ∀ n : Nat, (∀ e : Int, 0 ≤ e → e < n → (μ 14) e ≤ y - 1 → y - 1 < (μ 15) e → 0 ≤ l (xOn μ e (y - 1)) ∧ l (xOn μ e (y - 1)) ≤ B) → (0 ≤ (dF μ l v y n).1 ∧ (dF μ l v y n).1 ≤ n) ∧ ∀ j : Int, 0 ≤ j → j < (dF μ l v y n).1 → 0 ≤ (dF μ l v y n).2 j ∧ (dF μ l v y n).2 j ≤ B := by
  intro n
  induction n with
  | zero => intro _; exact ⟨⟨Int.le_refl _, Int.le_refl _⟩, fun j j0 j1 => by have j1' : j < 0 := j1; omega⟩
  | succ n ih =>
    intro h
    have i := ih (fun e e0 e1 => h e e0 (by omega))
    unfold dF
    by_cases c : ((μ 14) n ≤ y - 1 ∧ y - 1 < (μ 15) n) ∧ xOn μ n y = v
    · rw [if_pos c]
      refine ⟨by show 0 ≤ (dF μ l v y n).1 + 1 ∧ (dF μ l v y n).1 + 1 ≤ _; omega, fun j j0 j1 => ?_⟩
      have j1' : j < (dF μ l v y n).1 + 1 := j1
      exact insA_b (N := (dF μ l v y n).1 + 1) (h n (by omega) (by omega) c.1.1 c.1.2) _ _ (by omega) (fun q q0 q1 q2 => i.2 q q0 (by omega)) j j0 j1'
    · rw [if_neg c]
      exact ⟨by omega, i.2⟩
def dsr (μ : MU) (l : Int → Int) (v y : Int) : Int := if (dF μ l v y (μ 1 1).toNat).1 = 0 then l v else (dF μ l v y (μ 1 1).toNat).2 (((dF μ l v y (μ 1 1).toNat).1 - 1) / 2)
theorem t_3 {D : Nat} (hD : 2 ≤ D) {μ : MU} {Q : GQ} {v y : Int} (hG : iG μ) (hL : iL μ) (hN : iN μ) (hX : hLB μ) (v0 : 0 ≤ v) (v1 : v < (μ 19 2)) (y0 : 0 ≤ y ∧ y ≤ 40) (h : ∀ ν : MU, gFr [35] μ ν → Q (some (gI (dsr μ (μ 34) v y))) g_SH ν) : gCall g_T g_F sN sX D 3 [gR 33, gI v, gI y] g_SH μ Q := by
  have G := hG.1
  have V := hN.1
  have lb : ∀ e : Int, 0 ≤ e → e < (μ 1 1) → (μ 14) e ≤ y - 1 → y - 1 < (μ 15) e → 0 ≤ (μ 34) (xOn μ e (y - 1)) ∧ (μ 34) (xOn μ e (y - 1)) ≤ 1000 := fun e e0 e1 a b => by
    have x := (xOn_v hG hL hN e0 e1 a (by omega)).1
    exact hX _ x.1 x.2
  obtain ⟨d, rfl⟩ := gD (show 1 ≤ D by omega)
  refine gC 300 [5] rfl ?_
  (conv => whnf); try simp only [gO, gWe, ne_eq, Nat.reduceEqDiff, not_false_eq_true, true_or, or_true, true_and]
  have key : ∀ e : Int, 0 ≤ e → e ≤ (μ 1 1) → ∀ ρ : MU, gFr [35] μ ρ → (∀ j : Int, 0 ≤ j → j < (dF μ (μ 34) v y e.toNat).1 → (ρ 35) j = (dF μ (μ 34) v y e.toNat).2 j) → gG g_T g_F (gCall g_T g_F sN sX d) sN sX (g_T 3) Q 5 [gR 33, gI v, gI y, gI (dF μ (μ 34) v y e.toNat).1, gI e] [] g_SH ρ 0 0 := by
    refine g_up (fun e e0 e1 ih ρ hρ hj => ?_) (fun ρ hρ hj => ?_)
    · have b := (dF_b (μ := μ) (l := (μ 34)) (v := v) (y := y) (B := 1000) (by omega) e.toNat (fun i i0 i1 => lb i i0 (by omega))).1
      rw [show (e + 1).toNat = e.toNat + 1 by omega] at ih
      unfold dF at ih
      rw [show ((e.toNat : Nat) : Int) = e by omega] at ih
      generalize dF μ (μ 34) v y e.toNat = w at *
      have sρ : hSt μ ρ := hρ.st (by decide)
      have f2 : (ρ 1 1) = (μ 1 1) := by rw [sρ 1 (by decide) (by decide)]
      have ft : (ρ 14) e = (μ 14) e := by rw [sρ 14 (by decide) (by decide)]
      have fb : (ρ 15) e = (μ 15) e := by rw [sρ 15 (by decide) (by decide)]
      have hGρ := iG_c sρ hG
      have hLρ := iL_c sρ hL
      have hNρ := iN_c sρ hN
      have f34 : (ρ 34) = (μ 34) := hρ 34 (by decide)
      clear h
      by_cases c1 : (μ 14) e ≤ y - 1 ∧ y - 1 < (μ 15) e
      · have l1 := lb e e0 e1 c1.1 c1.2
        have ov := (xOn_v hG hL hN e0 e1 c1.1 (show y - 1 ≤ (μ 15) e by omega)).1
        by_cases c2 : xOn μ e y = v
        · rw [if_pos ⟨c1, c2⟩] at ih
          obtain ⟨c, hc⟩ : ∃ c : Nat, w.1 = c := ⟨w.1.toNat, by omega⟩
          rw [hc] at ih hj b ⊢
          rw [Int.toNat_natCast] at ih
          have i := fun ν h1 (h2 : ν 35 = insA ((μ 34) (xOn μ e (y - 1))) c (ρ 35)) => ih ν (hρ.tr h1) (fun j j0 j1 => by
            have j1' : j < (c : Int) + 1 := j1
            rw [h2]
            exact insA_c (N := (c : Int) + 1) c _ _ (by omega) (fun q q0 q1 q2 => hj q q0 (by omega)) j j0 j1')
          clear ih hj
          refine gB_gG [5] 300 ?_
          (conv => whnf); try simp only [gO, gWe, ne_eq, Nat.reduceEqDiff, not_false_eq_true, true_or, or_true, true_and]
          repeat' (first | exact True.intro | (refine ⟨fun hb => ?_, fun hb => ?_⟩ <;> first | (exfalso; omega; done) | exact absurd True.intro hb | ((conv => whnf); try simp only [gO, gWe, ne_eq, Nat.reduceEqDiff, not_false_eq_true, true_or, or_true, true_and])) | (refine ⟨by omega, ?_⟩; (conv => whnf); try simp only [gO, gWe, ne_eq, Nat.reduceEqDiff, not_false_eq_true, true_or, or_true, true_and]) | (refine ⟨fun hb => ?_, ?_⟩ <;> first | (exfalso; omega; done) | exact absurd True.intro hb | ((conv => whnf); try simp only [gO, gWe, ne_eq, Nat.reduceEqDiff, not_false_eq_true, true_or, or_true, true_and])) | fail)
          refine t_40 (by omega) hGρ e0 (by omega) (fun _ => ?_) (fun c => absurd (by omega) c)
          (conv => whnf); try simp only [gO, gWe, ne_eq, Nat.reduceEqDiff, not_false_eq_true, true_or, or_true, true_and]
          repeat' (first | exact True.intro | (refine ⟨fun hb => ?_, fun hb => ?_⟩ <;> first | (exfalso; omega; done) | exact absurd True.intro hb | ((conv => whnf); try simp only [gO, gWe, ne_eq, Nat.reduceEqDiff, not_false_eq_true, true_or, or_true, true_and])) | (refine ⟨by omega, ?_⟩; (conv => whnf); try simp only [gO, gWe, ne_eq, Nat.reduceEqDiff, not_false_eq_true, true_or, or_true, true_and]) | (refine ⟨fun hb => ?_, ?_⟩ <;> first | (exfalso; omega; done) | exact absurd True.intro hb | ((conv => whnf); try simp only [gO, gWe, ne_eq, Nat.reduceEqDiff, not_false_eq_true, true_or, or_true, true_and])) | fail)
          refine t_39 (by omega) hGρ hLρ hNρ e0 (by omega) ?_
          rw [xOn_c sρ]
          (conv => whnf); try simp only [gO, gWe, ne_eq, Nat.reduceEqDiff, not_false_eq_true, true_or, or_true, true_and]
          repeat' (first | exact True.intro | (refine ⟨fun hb => ?_, fun hb => ?_⟩ <;> first | (exfalso; omega; done) | exact absurd True.intro hb | ((conv => whnf); try simp only [gO, gWe, ne_eq, Nat.reduceEqDiff, not_false_eq_true, true_or, or_true, true_and])) | (refine ⟨by omega, ?_⟩; (conv => whnf); try simp only [gO, gWe, ne_eq, Nat.reduceEqDiff, not_false_eq_true, true_or, or_true, true_and]) | (refine ⟨fun hb => ?_, ?_⟩ <;> first | (exfalso; omega; done) | exact absurd True.intro hb | ((conv => whnf); try simp only [gO, gWe, ne_eq, Nat.reduceEqDiff, not_false_eq_true, true_or, or_true, true_and])) | fail)
          refine t_39 (by omega) hGρ hLρ hNρ e0 (by omega) ?_
          rw [xOn_c sρ]
          (conv => whnf); try simp only [gO, gWe, ne_eq, Nat.reduceEqDiff, not_false_eq_true, true_or, or_true, true_and]
          repeat' (first | exact True.intro | (refine ⟨fun hb => ?_, fun hb => ?_⟩ <;> first | (exfalso; omega; done) | exact absurd True.intro hb | ((conv => whnf); try simp only [gO, gWe, ne_eq, Nat.reduceEqDiff, not_false_eq_true, true_or, or_true, true_and])) | (refine ⟨by omega, ?_⟩; (conv => whnf); try simp only [gO, gWe, ne_eq, Nat.reduceEqDiff, not_false_eq_true, true_or, or_true, true_and]) | (refine ⟨fun hb => ?_, ?_⟩ <;> first | (exfalso; omega; done) | exact absurd True.intro hb | ((conv => whnf); try simp only [gO, gWe, ne_eq, Nat.reduceEqDiff, not_false_eq_true, true_or, or_true, true_and])) | fail)
          rw [f34]
          refine t_4 (by omega) (by omega) (fun ν hν he => ?_)
          have j := i ν hν he
          clear i
          (conv => whnf); try simp only [gO, gWe, ne_eq, Nat.reduceEqDiff, not_false_eq_true, true_or, or_true, true_and]
          repeat' (first | exact True.intro | (refine ⟨fun hb => ?_, fun hb => ?_⟩ <;> first | (exfalso; omega; done) | exact absurd True.intro hb | ((conv => whnf); try simp only [gO, gWe, ne_eq, Nat.reduceEqDiff, not_false_eq_true, true_or, or_true, true_and])) | (refine ⟨by omega, ?_⟩; (conv => whnf); try simp only [gO, gWe, ne_eq, Nat.reduceEqDiff, not_false_eq_true, true_or, or_true, true_and]) | (refine ⟨fun hb => ?_, ?_⟩ <;> first | (exfalso; omega; done) | exact absurd True.intro hb | ((conv => whnf); try simp only [gO, gWe, ne_eq, Nat.reduceEqDiff, not_false_eq_true, true_or, or_true, true_and])) | fail)
          exact j
        · rw [if_neg (fun hh => c2 hh.2)] at ih
          have i := ih ρ hρ hj
          clear ih hj
          refine gB_gG [5] 300 ?_
          (conv => whnf); try simp only [gO, gWe, ne_eq, Nat.reduceEqDiff, not_false_eq_true, true_or, or_true, true_and]
          repeat' (first | exact True.intro | (refine ⟨fun hb => ?_, fun hb => ?_⟩ <;> first | (exfalso; omega; done) | exact absurd True.intro hb | ((conv => whnf); try simp only [gO, gWe, ne_eq, Nat.reduceEqDiff, not_false_eq_true, true_or, or_true, true_and])) | (refine ⟨by omega, ?_⟩; (conv => whnf); try simp only [gO, gWe, ne_eq, Nat.reduceEqDiff, not_false_eq_true, true_or, or_true, true_and]) | (refine ⟨fun hb => ?_, ?_⟩ <;> first | (exfalso; omega; done) | exact absurd True.intro hb | ((conv => whnf); try simp only [gO, gWe, ne_eq, Nat.reduceEqDiff, not_false_eq_true, true_or, or_true, true_and])) | fail)
          refine t_40 (by omega) hGρ e0 (by omega) (fun _ => ?_) (fun c => absurd (by omega) c)
          (conv => whnf); try simp only [gO, gWe, ne_eq, Nat.reduceEqDiff, not_false_eq_true, true_or, or_true, true_and]
          repeat' (first | exact True.intro | (refine ⟨fun hb => ?_, fun hb => ?_⟩ <;> first | (exfalso; omega; done) | exact absurd True.intro hb | ((conv => whnf); try simp only [gO, gWe, ne_eq, Nat.reduceEqDiff, not_false_eq_true, true_or, or_true, true_and])) | (refine ⟨by omega, ?_⟩; (conv => whnf); try simp only [gO, gWe, ne_eq, Nat.reduceEqDiff, not_false_eq_true, true_or, or_true, true_and]) | (refine ⟨fun hb => ?_, ?_⟩ <;> first | (exfalso; omega; done) | exact absurd True.intro hb | ((conv => whnf); try simp only [gO, gWe, ne_eq, Nat.reduceEqDiff, not_false_eq_true, true_or, or_true, true_and])) | fail)
          refine t_39 (by omega) hGρ hLρ hNρ e0 (by omega) ?_
          rw [xOn_c sρ]
          (conv => whnf); try simp only [gO, gWe, ne_eq, Nat.reduceEqDiff, not_false_eq_true, true_or, or_true, true_and]
          repeat' (first | exact True.intro | (refine ⟨fun hb => ?_, fun hb => ?_⟩ <;> first | (exfalso; omega; done) | exact absurd True.intro hb | ((conv => whnf); try simp only [gO, gWe, ne_eq, Nat.reduceEqDiff, not_false_eq_true, true_or, or_true, true_and])) | (refine ⟨by omega, ?_⟩; (conv => whnf); try simp only [gO, gWe, ne_eq, Nat.reduceEqDiff, not_false_eq_true, true_or, or_true, true_and]) | (refine ⟨fun hb => ?_, ?_⟩ <;> first | (exfalso; omega; done) | exact absurd True.intro hb | ((conv => whnf); try simp only [gO, gWe, ne_eq, Nat.reduceEqDiff, not_false_eq_true, true_or, or_true, true_and])) | fail)
          exact i
      · rw [if_neg (fun hh => c1 hh.1)] at ih
        have i := ih ρ hρ hj
        clear ih hj
        refine gB_gG [5] 300 ?_
        (conv => whnf); try simp only [gO, gWe, ne_eq, Nat.reduceEqDiff, not_false_eq_true, true_or, or_true, true_and]
        repeat' (first | exact True.intro | (refine ⟨fun hb => ?_, fun hb => ?_⟩ <;> first | (exfalso; omega; done) | exact absurd True.intro hb | ((conv => whnf); try simp only [gO, gWe, ne_eq, Nat.reduceEqDiff, not_false_eq_true, true_or, or_true, true_and])) | (refine ⟨by omega, ?_⟩; (conv => whnf); try simp only [gO, gWe, ne_eq, Nat.reduceEqDiff, not_false_eq_true, true_or, or_true, true_and]) | (refine ⟨fun hb => ?_, ?_⟩ <;> first | (exfalso; omega; done) | exact absurd True.intro hb | ((conv => whnf); try simp only [gO, gWe, ne_eq, Nat.reduceEqDiff, not_false_eq_true, true_or, or_true, true_and])) | fail)
        refine t_40 (by omega) hGρ e0 (by omega) (fun c => absurd (by omega) c1) (fun _ => ?_)
        (conv => whnf); try simp only [gO, gWe, ne_eq, Nat.reduceEqDiff, not_false_eq_true, true_or, or_true, true_and]
        repeat' (first | exact True.intro | (refine ⟨fun hb => ?_, fun hb => ?_⟩ <;> first | (exfalso; omega; done) | exact absurd True.intro hb | ((conv => whnf); try simp only [gO, gWe, ne_eq, Nat.reduceEqDiff, not_false_eq_true, true_or, or_true, true_and])) | (refine ⟨by omega, ?_⟩; (conv => whnf); try simp only [gO, gWe, ne_eq, Nat.reduceEqDiff, not_false_eq_true, true_or, or_true, true_and]) | (refine ⟨fun hb => ?_, ?_⟩ <;> first | (exfalso; omega; done) | exact absurd True.intro hb | ((conv => whnf); try simp only [gO, gWe, ne_eq, Nat.reduceEqDiff, not_false_eq_true, true_or, or_true, true_and])) | fail)
        exact i
    · have f := h ρ hρ
      have b := dF_b (μ := μ) (l := (μ 34)) (v := v) (y := y) (B := 1000) (by omega) (μ 1 1).toNat (fun i i0 i1 => lb i i0 (by omega))
      unfold dsr at f
      generalize dF μ (μ 34) v y (μ 1 1).toNat = w at *
      have sρ : hSt μ ρ := hρ.st (by decide)
      have f2 : (ρ 1 1) = (μ 1 1) := by rw [sρ 1 (by decide) (by decide)]
      have f34 : (ρ 34) v = (μ 34) v := by rw [hρ 34 (by decide)]
      have b1 := b.1
      clear h
      by_cases c : w.1 = 0
      · rw [if_pos c, ← f34] at f
        clear hj b
        refine gB_gG [5] 300 ?_
        (conv => whnf); try simp only [gO, gWe, ne_eq, Nat.reduceEqDiff, not_false_eq_true, true_or, or_true, true_and]
        repeat' (first | exact True.intro | (refine ⟨fun hb => ?_, fun hb => ?_⟩ <;> first | (exfalso; omega; done) | exact absurd True.intro hb | ((conv => whnf); try simp only [gO, gWe, ne_eq, Nat.reduceEqDiff, not_false_eq_true, true_or, or_true, true_and])) | (refine ⟨by omega, ?_⟩; (conv => whnf); try simp only [gO, gWe, ne_eq, Nat.reduceEqDiff, not_false_eq_true, true_or, or_true, true_and]) | (refine ⟨fun hb => ?_, ?_⟩ <;> first | (exfalso; omega; done) | exact absurd True.intro hb | ((conv => whnf); try simp only [gO, gWe, ne_eq, Nat.reduceEqDiff, not_false_eq_true, true_or, or_true, true_and])) | fail)
        exact f
      · rw [if_neg c] at f
        have dv := g_div (a := w.1 - 1) (b := 2) (by omega) (by omega) (by omega) (by omega)
        have l := hj ((w.1 - 1) / 2) (by omega) (by omega)
        rw [← l, ← dv] at f
        have d0 : 0 ≤ gDiv (w.1 - 1) 2 ∧ gDiv (w.1 - 1) 2 < 20 := by rw [dv]; omega
        clear hj b l
        refine gB_gG [5] 300 ?_
        (conv => whnf); try simp only [gO, gWe, ne_eq, Nat.reduceEqDiff, not_false_eq_true, true_or, or_true, true_and]
        repeat' (first | exact True.intro | (refine ⟨fun hb => ?_, fun hb => ?_⟩ <;> first | (exfalso; omega; done) | exact absurd True.intro hb | ((conv => whnf); try simp only [gO, gWe, ne_eq, Nat.reduceEqDiff, not_false_eq_true, true_or, or_true, true_and])) | (refine ⟨by omega, ?_⟩; (conv => whnf); try simp only [gO, gWe, ne_eq, Nat.reduceEqDiff, not_false_eq_true, true_or, or_true, true_and]) | (refine ⟨fun hb => ?_, ?_⟩ <;> first | (exfalso; omega; done) | exact absurd True.intro hb | ((conv => whnf); try simp only [gO, gWe, ne_eq, Nat.reduceEqDiff, not_false_eq_true, true_or, or_true, true_and])) | fail)
        exact f
  exact key 0 (by omega) (by omega) μ gFr.rf (fun j j0 j1 => by have j1' : j < 0 := j1; omega)
