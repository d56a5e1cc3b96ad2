variable {sN : Int} {sX : Int → Int}
/-! the class makes the vertices -/
theorem t_36 {D : Nat} (hD : 1 ≤ D) {μ : MU} {Q : GQ} {a y : Int} (hV : 0 ≤ (μ 19 2) ∧ (μ 19 2) < 60) (h : ∀ ν : MU, gFr [19, 20, 21] μ ν → (ν 19 2) = (μ 19 2) + 1 → (ν 20) = gUp (μ 20) (μ 19 2) a → (ν 21) = gUp (μ 21) (μ 19 2) y → Q none g_SH ν) : gCall g_T g_F sN sX D 36 [gR 19, gI a, gI y] g_SH μ Q := by
  obtain ⟨d, rfl⟩ := gD (show 1 ≤ D by omega)
  refine gC 300 [] rfl ?_
  (conv => whnf); try simp only [gO, gWe, ne_eq, Nat.reduceEqDiff, not_false_eq_true, true_or, or_true, true_and]
  repeat' (first | exact True.intro | (refine ⟨fun hb => ?_, fun hb => ?_⟩ <;> first | (exfalso; omega; done) | exact absurd True.intro hb | ((conv => whnf); try simp only [gO, gWe, ne_eq, Nat.reduceEqDiff, not_false_eq_true, true_or, or_true, true_and])) | (refine ⟨by omega, ?_⟩; (conv => whnf); try simp only [gO, gWe, ne_eq, Nat.reduceEqDiff, not_false_eq_true, true_or, or_true, true_and]) | (refine ⟨fun hb => ?_, ?_⟩ <;> first | (exfalso; omega; done) | exact absurd True.intro hb | ((conv => whnf); try simp only [gO, gWe, ne_eq, Nat.reduceEqDiff, not_false_eq_true, true_or, or_true, true_and])) | fail)
  refine h _ (((gFr.rf.W (by decide)).W (by decide)).W (by decide)) ?_ ?_ ?_
  · exact gWe _ _ _ _
  · show gW μ 20 _ a 20 = _
    exact gW_up
  · show gW (gW μ 20 _ a) 21 _ y 21 = _
    rw [gW_up]
    rfl
def hBn (μ : MU) (e : Int) : Int := gSum (fun j => (μ 15) j - (μ 14) j - 1) e.toNat
theorem hBn_m {μ : MU} (hG : iG μ) (hL : iL μ) {a b : Int} (a0 : 0 ≤ a) (ab : a ≤ b) (b1 : b ≤ (μ 1 1)) : hBn μ a ≤ hBn μ b := gSum_m (n := (μ 1 1).toNat) (fun i i0 i1 => by
  have := iE hG hL i0 (show i < (μ 1 1) by omega)
  show 0 ≤ (μ 15) i - (μ 14) i - 1
  omega) _ _ (by omega) (by omega)
theorem hBn_s {μ : MU} {e : Int} (e0 : 0 ≤ e) : hBn μ (e + 1) = hBn μ e + ((μ 15) e - (μ 14) e - 1) := gSum_s _ _ e0
theorem hBn_t {μ : MU} (hG : iG μ) : xTot μ - (μ 1 1) = hBn μ (μ 1 1) := by
  have G := hG.1
  have key : ∀ k : Nat, gSum (fun e => (μ 15) e - (μ 14) e) k - k = gSum (fun j => (μ 15) j - (μ 14) j - 1) k := by
    intro k
    induction k with
    | zero => rfl
    | succ k ih =>
      rw [gSum, gSum, ← ih]
      omega
  have := key (μ 1 1).toNat
  unfold xTot hBn
  omega
def hBu (μ ν : MU) (e z : Int) : Prop := (ν 19 2) = (μ 1 0) + hBn μ e + z ∧ (∀ i : Int, 0 ≤ i → i < (μ 1 0) → (ν 20) i = i ∧ (ν 21) i = (μ 13) i) ∧ (∀ j : Int, 0 ≤ j → j < e → (ν 22) j = (μ 1 0) + hBn μ j) ∧
  (∀ j y : Int, 0 ≤ j → j < e → (μ 14) j < y → y < (μ 15) j → (ν 20) ((μ 1 0) + hBn μ j + y - (μ 14) j - 1) = 100 + 40 * j + y ∧ (ν 21) ((μ 1 0) + hBn μ j + y - (μ 14) j - 1) = y) ∧
  ∀ y : Int, (μ 14) e < y → y - (μ 14) e - 1 < z → (ν 20) ((μ 1 0) + hBn μ e + y - (μ 14) e - 1) = 100 + 40 * e + y ∧ (ν 21) ((μ 1 0) + hBn μ e + y - (μ 14) e - 1) = y
theorem hBu_p {μ ν ρ : MU} {e z : Int} (hG : iG μ) (hL : iL μ) (e0 : 0 ≤ e) (e1 : e < (μ 1 1)) (z0 : 0 ≤ z) (h : hBu μ ν e z) (h22 : ρ 22 = ν 22) (h1 : (ρ 19 2) = (ν 19 2) + 1) (h2 : (ρ 20) = gUp (ν 20) (ν 19 2) (100 + 40 * e + ((μ 14) e + 1 + z))) (h3 : (ρ 21) = gUp (ν 21) (ν 19 2) ((μ 14) e + 1 + z)) : hBu μ ρ e (z + 1) := by
  obtain ⟨a, b, c, d, f⟩ := h
  have G := hG.1
  have b0 := hBn_m hG hL (Int.le_refl 0) e0 (Int.le_of_lt e1)
  have z00 : hBn μ 0 = 0 := rfl
  refine ⟨by omega, fun i i0 i1 => ?_, fun j j0 j1 => by rw [h22]; exact c j j0 j1, fun j y j0 j1 y0 y1 => ?_, fun y y0 y1 => ?_⟩
  · rw [h2, h3, gUp_n (show i ≠ (ν 19 2) by omega), gUp_n (show i ≠ (ν 19 2) by omega)]; exact b i i0 i1
  · have m := hBn_m hG hL (show 0 ≤ j + 1 by omega) (show j + 1 ≤ e by omega) (Int.le_of_lt e1)
    rw [hBn_s j0] at m
    rw [h2, h3, gUp_n (by omega), gUp_n (by omega)]
    exact d j y j0 j1 y0 y1
  · by_cases hc : y = (μ 14) e + 1 + z
    · rw [h2, h3, show (μ 1 0) + hBn μ e + y - (μ 14) e - 1 = (ν 19 2) by omega, gUp_e, gUp_e, hc]; exact ⟨rfl, rfl⟩
    · rw [h2, h3, gUp_n (by omega), gUp_n (by omega)]
      exact f y y0 (by omega)
theorem hBu_n {μ ν : MU} {e : Int} (hG : iG μ) (hL : iL μ) (e0 : 0 ≤ e) (e1 : e < (μ 1 1)) (h : hBu μ ν e ((μ 15) e - (μ 14) e - 1)) (h4 : (ν 22) e = (μ 1 0) + hBn μ e) : hBu μ ν (e + 1) 0 := by
  obtain ⟨a, b, c, d, f⟩ := h
  refine ⟨by rw [hBn_s e0]; omega, b, fun j j0 j1 => ?_, fun j y j0 j1 y0 y1 => ?_, fun y y0 y1 => by omega⟩
  · by_cases hc : j = e
    · rw [hc]; exact h4
    · exact c j j0 (by omega)
  · by_cases hc : j = e
    · rw [hc] at y0 y1 ⊢
      exact f y y0 (by omega)
    · exact d j y j0 (by omega) y0 y1
theorem hRk_s {n : Int} {p : Int → Int} {y : Int} : hRk n p (y + 1) = hRk n p y + gSum (fun v => if p v = y then 1 else 0) n.toNat := by
  unfold hRk
  rw [← gSum_a]
  refine gSum_c _ (fun i _ _ => ?_)
  show (if p i < y + 1 then (1 : Int) else 0) = (if p i < y then 1 else 0) + (if p i = y then 1 else 0)
  split <;> split <;> split <;> omega
theorem hRk_t {n : Int} {p : Int → Int} {y : Int} (hn : 0 ≤ n) (h : ∀ i : Int, 0 ≤ i → i < n → p i < y) : hRk n p y = n := by
  have a := gSum_b (f := fun i => if p i < y then (1 : Int) else 0) (a := 1) (b := 1) n.toNat (fun i i0 i1 => by
    show (1 : Int) ≤ (if p i < y then 1 else 0) ∧ (if p i < y then (1 : Int) else 0) ≤ 1
    rw [if_pos (h i i0 (by omega))]; omega)
  unfold hRk
  omega
theorem hRk_0 {n : Int} {p : Int → Int} {y : Int} (h : ∀ i : Int, 0 ≤ i → i < n → y ≤ p i) : hRk n p y = 0 := gSum_0 _ (fun i i0 i1 => if_neg (by have := h i i0 (by omega); omega))
/-- the vertices by their names -/
def iNm (μ : MU) (sq : Int → Int) : Prop := ∀ v : Int, 0 ≤ v → v < (μ 19 2) → sq ((μ 23) ((μ 21) v) + hCn μ ((μ 21) v) v.toNat) = v
theorem hCn_b {μ : MU} {y : Int} (n : Nat) : 0 ≤ hCn μ y n ∧ hCn μ y n ≤ n := by
  have := gSum_b (f := fun v => if (μ 21) v = y then (1 : Int) else 0) (a := 0) (b := 1) n (fun i _ _ => by
    show (0 : Int) ≤ (if (μ 21) i = y then 1 else 0) ∧ (if (μ 21) i = y then (1 : Int) else 0) ≤ 1
    split <;> omega)
  unfold hCn
  omega
theorem hCn_s {μ : MU} {y v : Int} (v0 : 0 ≤ v) : hCn μ y (v + 1).toNat = hCn μ y v.toNat + if (μ 21) v = y then 1 else 0 := gSum_s _ _ v0
theorem t_37 {D : Nat} (hD : 1 ≤ D) {μ : MU} {Q : GQ} (hG : iG μ) (hL : iL μ) (hV : 0 ≤ (μ 19 2) ∧ (μ 19 2) ≤ 60) (hl : ∀ v : Int, 0 ≤ v → v < (μ 19 2) → 0 ≤ (μ 21) v ∧ (μ 21) v < (μ 9 1)) (h : ∀ ν : MU, gFr [23, 24] μ ν → (ν 23) 0 = 0 → (ν 23) (μ 9 1) = (μ 19 2) → (∀ y : Int, 0 ≤ y → y < (μ 9 1) → (ν 23) (y + 1) = (ν 23) y + gSum (fun v => if (μ 21) v = y then 1 else 0) (μ 19 2).toNat) → iNm ν (ν 24) → Q none g_SH ν) : gCall g_T g_F sN sX D 37 [gR 19] g_SH μ Q := by
  have L := hL.2.2.2.1
  obtain ⟨d, rfl⟩ := gD (show 1 ≤ D by omega)
  refine gC 300 [4] rfl ?_
  (conv => whnf); try simp only [gO, gWe, ne_eq, Nat.reduceEqDiff, not_false_eq_true, true_or, or_true, true_and]
  have z0 : hRk (μ 19 2) (μ 21) 0 = 0 := hRk_0 (fun i i0 i1 => (hl i i0 i1).1)
  have zL : hRk (μ 19 2) (μ 21) (μ 9 1) = (μ 19 2) := hRk_t (by omega) (fun i i0 i1 => (hl i i0 i1).2)
  have out : ∀ y : Int, 0 ≤ y → y ≤ (μ 9 1) → ∀ (ν : MU) (x : GV), gFr [23, 24] μ ν → (∀ z : Int, 0 ≤ z → z < y → (ν 23) z = hRk (μ 19 2) (μ 21) z) → (∀ v : Int, 0 ≤ v → v < (μ 19 2) → (μ 21) v < y → (ν 24) (hRk (μ 19 2) (μ 21) ((μ 21) v) + hCn μ ((μ 21) v) v.toNat) = v) → gG g_T g_F (gCall g_T g_F sN sX d) sN sX (g_T 37) Q 4 [gR 19, gI (hRk (μ 19 2) (μ 21) y), gI y, x] [] g_SH ν 0 0 := by
    refine g_up (fun y y0 y1 ih ν x hν hs hq => ?_) (fun ν x hν hs hq => ?_)
    · have rs := hRk_s (n := (μ 19 2)) (p := (μ 21)) (y := y)
      have rb := hRk_b (n := (μ 19 2)) (p := (μ 21)) (y := y + 1) (by omega)
      have rb0 := hRk_b (n := (μ 19 2)) (p := (μ 21)) (y := y) (by omega)
      have f9 : (ν 9 1) = (μ 9 1) := by rw [hν 9 (by decide)]
      have inn : ∀ v : Int, 0 ≤ v → v ≤ (μ 19 2) → ∀ (ρ : MU), gFr [23, 24] μ ρ → (∀ z : Int, 0 ≤ z → z < y + 1 → (ρ 23) z = hRk (μ 19 2) (μ 21) z) → (∀ w : Int, 0 ≤ w → w < (μ 19 2) → ((μ 21) w < y ∨ ((μ 21) w = y ∧ w < v)) → (ρ 24) (hRk (μ 19 2) (μ 21) ((μ 21) w) + hCn μ ((μ 21) w) w.toNat) = w) → gG g_T g_F (gCall g_T g_F sN sX d) sN sX (g_T 37) Q 24 [gR 19, gI (hRk (μ 19 2) (μ 21) y + hCn μ y v.toNat), gI y, gI v] [] g_SH ρ 0 0 := by
        refine g_up (fun v v0 v1 ihv ρ hρ hs hq => ?_) (fun ρ hρ hs hq => ?_)
        · have f19 : (ρ 19 2) = (μ 19 2) := by rw [hρ 19 (by decide)]
          have f21 : (ρ 21) v = (μ 21) v := by rw [hρ 21 (by decide)]
          have cm := hCn_m (μ := μ) (y := y) (n := v.toNat + 1) (μ 19 2).toNat (by omega)
          have cs := hCn_s (μ := μ) (y := y) v0
          have cb := hCn_b (μ := μ) (y := y) v.toNat
          rw [show (v + 1).toNat = v.toNat + 1 by omega] at cs ihv
          have cv : hCn μ y (μ 19 2).toNat = gSum (fun v => if (μ 21) v = y then 1 else 0) (μ 19 2).toNat := rfl
          by_cases c : (μ 21) v = y
          · rw [if_pos c] at cs
            rw [cs, ← Int.add_assoc] at ihv
            have nx : gG g_T g_F (gCall g_T g_F sN sX d) sN sX (g_T 37) Q 24 [gR 19, gI (hRk (μ 19 2) (μ 21) y + hCn μ y v.toNat + 1), gI y, gI (v + 1)] [] g_SH (gW ρ 24 (hRk (μ 19 2) (μ 21) y + hCn μ y v.toNat) v) 0 0 := by
              refine ihv _ (hρ.W (by decide)) hs (fun w w0 w1 hw => ?_)
              show gW ρ 24 _ v 24 _ = w
              by_cases hd : w = v
              · rw [hd, c]; exact gWe _ _ _ _
              · have ne : hRk (μ 19 2) (μ 21) ((μ 21) w) + hCn μ ((μ 21) w) w.toNat ≠ hRk (μ 19 2) (μ 21) y + hCn μ y v.toNat := by
                  rcases hw with z | ⟨z1, z2⟩
                  · have a1 := hRk_s (n := (μ 19 2)) (p := (μ 21)) (y := (μ 21) w)
                    have a2 : hRk (μ 19 2) (μ 21) ((μ 21) w + 1) ≤ hRk (μ 19 2) (μ 21) y := gSum_l _ (fun i _ _ => by
                      show (if (μ 21) i < (μ 21) w + 1 then (1 : Int) else 0) ≤ (if (μ 21) i < y then 1 else 0)
                      split <;> split <;> omega)
                    have a3 := hCn_m (μ := μ) (y := (μ 21) w) (n := w.toNat + 1) (μ 19 2).toNat (by omega)
                    have a4 := hCn_s (μ := μ) (y := (μ 21) w) w0
                    rw [if_pos rfl, show (w + 1).toNat = w.toNat + 1 by omega] at a4
                    have a5 : hCn μ ((μ 21) w) (μ 19 2).toNat = gSum (fun v => if (μ 21) v = (μ 21) w then 1 else 0) (μ 19 2).toNat := rfl
                    omega
                  · have a3 := hCn_m (μ := μ) (y := y) (n := w.toNat + 1) v.toNat (by omega)
                    have a4 := hCn_s (μ := μ) (y := y) w0
                    rw [if_pos z1, show (w + 1).toNat = w.toNat + 1 by omega] at a4
                    rw [z1]
                    omega
                rw [gWn _ _ _ ne]
                exact hq w w0 w1 (by omega)
            clear ihv hs hq
            refine gB_gG [24] 300 ?_
            (conv => whnf); try simp only [gO, gWe, ne_eq, Nat.reduceEqDiff, not_false_eq_true, true_or, or_true, true_and]
            repeat' (first | exact True.intro | (refine ⟨fun hb => ?_, fun hb => ?_⟩ <;> first | (exfalso; omega; done) | exact absurd True.intro hb | ((conv => whnf); try simp only [gO, gWe, ne_eq, Nat.reduceEqDiff, not_false_eq_true, true_or, or_true, true_and])) | (refine ⟨by omega, ?_⟩; (conv => whnf); try simp only [gO, gWe, ne_eq, Nat.reduceEqDiff, not_false_eq_true, true_or, or_true, true_and]) | (refine ⟨fun hb => ?_, ?_⟩ <;> first | (exfalso; omega; done) | exact absurd True.intro hb | ((conv => whnf); try simp only [gO, gWe, ne_eq, Nat.reduceEqDiff, not_false_eq_true, true_or, or_true, true_and])) | fail)
            exact nx
          · rw [if_neg c, Int.add_zero] at cs
            rw [cs] at ihv
            have nx := ihv ρ hρ hs (fun w w0 w1 hw => hq w w0 w1 (by
              have : w ≠ v ∨ (μ 21) w ≠ y := by
                by_cases hd : w = v
                · exact Or.inr (by rw [hd]; exact c)
                · exact Or.inl hd
              omega))
            clear ihv hs hq
            refine gB_gG [24] 300 ?_
            (conv => whnf); try simp only [gO, gWe, ne_eq, Nat.reduceEqDiff, not_false_eq_true, true_or, or_true, true_and]
            repeat' (first | exact True.intro | (refine ⟨fun hb => ?_, fun hb => ?_⟩ <;> first | (exfalso; omega; done) | exact absurd True.intro hb | ((conv => whnf); try simp only [gO, gWe, ne_eq, Nat.reduceEqDiff, not_false_eq_true, true_or, or_true, true_and])) | (refine ⟨by omega, ?_⟩; (conv => whnf); try simp only [gO, gWe, ne_eq, Nat.reduceEqDiff, not_false_eq_true, true_or, or_true, true_and]) | (refine ⟨fun hb => ?_, ?_⟩ <;> first | (exfalso; omega; done) | exact absurd True.intro hb | ((conv => whnf); try simp only [gO, gWe, ne_eq, Nat.reduceEqDiff, not_false_eq_true, true_or, or_true, true_and])) | fail)
            exact nx
        · have f19 : (ρ 19 2) = (μ 19 2) := by rw [hρ 19 (by decide)]
          have cv : hCn μ y (μ 19 2).toNat = gSum (fun v => if (μ 21) v = y then 1 else 0) (μ 19 2).toNat := rfl
          have nx := ih ρ (gI (μ 19 2)) hρ hs (fun w w0 w1 hw => hq w w0 w1 (by omega))
          rw [rs, ← cv] at nx
          clear ih hs hq
          refine gB_gG [24,4] 300 ?_
          (conv => whnf); try simp only [gO, gWe, ne_eq, Nat.reduceEqDiff, not_false_eq_true, true_or, or_true, true_and]
          repeat' (first | exact True.intro | (refine ⟨fun hb => ?_, fun hb => ?_⟩ <;> first | (exfalso; omega; done) | exact absurd True.intro hb | ((conv => whnf); try simp only [gO, gWe, ne_eq, Nat.reduceEqDiff, not_false_eq_true, true_or, or_true, true_and])) | (refine ⟨by omega, ?_⟩; (conv => whnf); try simp only [gO, gWe, ne_eq, Nat.reduceEqDiff, not_false_eq_true, true_or, or_true, true_and]) | (refine ⟨fun hb => ?_, ?_⟩ <;> first | (exfalso; omega; done) | exact absurd True.intro hb | ((conv => whnf); try simp only [gO, gWe, ne_eq, Nat.reduceEqDiff, not_false_eq_true, true_or, or_true, true_and])) | fail)
          exact nx
      have nx : gG g_T g_F (gCall g_T g_F sN sX d) sN sX (g_T 37) Q 24 [gR 19, gI (hRk (μ 19 2) (μ 21) y), gI y, gI 0] [] g_SH (gW ν 23 y (hRk (μ 19 2) (μ 21) y)) 0 0 := by
        have i := inn 0 (by omega) (by omega) (gW ν 23 y (hRk (μ 19 2) (μ 21) y)) (hν.W (by decide)) (fun z z0 z1 => by
          show gW ν 23 y _ 23 z = _
          by_cases hd : z = y
          · rw [hd]; exact gWe _ _ _ _
          · rw [gWn _ _ _ hd]; exact hs z z0 (by omega)) (fun w w0 w1 hw => hq w w0 w1 (by omega))
        have e : hRk (μ 19 2) (μ 21) y + hCn μ y (0 : Int).toNat = hRk (μ 19 2) (μ 21) y := Int.add_zero _
        rw [e] at i
        exact i
      clear ih inn hs hq
      refine gB_gG [4,24] 300 ?_
      (conv => whnf); try simp only [gO, gWe, ne_eq, Nat.reduceEqDiff, not_false_eq_true, true_or, or_true, true_and]
      repeat' (first | exact True.intro | (refine ⟨fun hb => ?_, fun hb => ?_⟩ <;> first | (exfalso; omega; done) | exact absurd True.intro hb | ((conv => whnf); try simp only [gO, gWe, ne_eq, Nat.reduceEqDiff, not_false_eq_true, true_or, or_true, true_and])) | (refine ⟨by omega, ?_⟩; (conv => whnf); try simp only [gO, gWe, ne_eq, Nat.reduceEqDiff, not_false_eq_true, true_or, or_true, true_and]) | (refine ⟨fun hb => ?_, ?_⟩ <;> first | (exfalso; omega; done) | exact absurd True.intro hb | ((conv => whnf); try simp only [gO, gWe, ne_eq, Nat.reduceEqDiff, not_false_eq_true, true_or, or_true, true_and])) | fail)
      exact nx
    · have f9 : (ν 9 1) = (μ 9 1) := by rw [hν 9 (by decide)]
      have fin : Q none g_SH (gW ν 23 (μ 9 1) (μ 19 2)) := by
        have sv : ∀ z : Int, 0 ≤ z → z ≤ (μ 9 1) → gW ν 23 (μ 9 1) (μ 19 2) 23 z = hRk (μ 19 2) (μ 21) z := fun z z0 z1 => by
          by_cases hd : z = (μ 9 1)
          · rw [hd, gWe, zL]
          · rw [gWn _ _ _ hd]; exact hs z z0 (by omega)
        refine h _ (hν.W (by decide)) ?_ ?_ (fun y y0 y1 => ?_) (fun v v0 v1 => ?_)
        · rw [sv 0 (by omega) (by omega)]; exact z0
        · rw [sv _ (by omega) (by omega)]; exact zL
        · rw [sv _ (by omega) (by omega), sv _ (by omega) (by omega)]
          exact hRk_s
        · have e21 : (gW ν 23 (μ 9 1) (μ 19 2)) 21 = (μ 21) := hν 21 (by decide)
          have e19 : (gW ν 23 (μ 9 1) (μ 19 2)) 19 = μ 19 := hν 19 (by decide)
          rw [e19] at v1
          unfold hCn
          rw [e21]
          have l := hl v v0 v1
          rw [sv _ l.1 (by omega)]
          exact hq v v0 v1 l.2
      rw [zL]
      clear hs hq
      refine gB_gG [4] 300 ?_
      (conv => whnf); try simp only [gO, gWe, ne_eq, Nat.reduceEqDiff, not_false_eq_true, true_or, or_true, true_and]
      repeat' (first | exact True.intro | (refine ⟨fun hb => ?_, fun hb => ?_⟩ <;> first | (exfalso; omega; done) | exact absurd True.intro hb | ((conv => whnf); try simp only [gO, gWe, ne_eq, Nat.reduceEqDiff, not_false_eq_true, true_or, or_true, true_and])) | (refine ⟨by omega, ?_⟩; (conv => whnf); try simp only [gO, gWe, ne_eq, Nat.reduceEqDiff, not_false_eq_true, true_or, or_true, true_and]) | (refine ⟨fun hb => ?_, ?_⟩ <;> first | (exfalso; omega; done) | exact absurd True.intro hb | ((conv => whnf); try simp only [gO, gWe, ne_eq, Nat.reduceEqDiff, not_false_eq_true, true_or, or_true, true_and])) | fail)
      rw [f9]
      exact fin
  have nx := fun x => out 0 (by omega) (by omega) μ x gFr.rf (fun z _ _ => by omega) (fun v v0 v1 hv => by have := hl v v0 v1; omega)
  simp only [z0] at nx
  exact nx _
