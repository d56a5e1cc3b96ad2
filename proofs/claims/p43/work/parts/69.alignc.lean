variable {sN : Int} {sX : Int → Int}
/-! aligning, layer by layer -/
def alK (μ : MU) (sq l : Int → Int) (y : Int) : Nat → Int → Int
  | 0 => l
  | j + 1 => gUp (alK μ sq l y j) (sq ((μ 23) (y + 1) - 1 - j)) (max (alK μ sq l y j (sq ((μ 23) (y + 1) - 1 - j))) (min (dsr μ (alK μ sq l y j) (sq ((μ 23) (y + 1) - 1 - j)) y) ((if j = 0 then 1073741824 else alK μ sq l y j (sq ((μ 23) (y + 1) - 1 - j + 1)) - 1) - xWd μ (sq ((μ 23) (y + 1) - 1 - j)))))
theorem alK_s {μ : MU} {sq l : Int → Int} {y : Int} {j : Nat} : alK μ sq l y (j + 1) = gUp (alK μ sq l y j) (sq ((μ 23) (y + 1) - 1 - j)) (max (alK μ sq l y j (sq ((μ 23) (y + 1) - 1 - j))) (min (dsr μ (alK μ sq l y j) (sq ((μ 23) (y + 1) - 1 - j)) y) ((if j = 0 then 1073741824 else alK μ sq l y j (sq ((μ 23) (y + 1) - 1 - j + 1)) - 1) - xWd μ (sq ((μ 23) (y + 1) - 1 - j))))) := rfl
def alY (μ : MU) (sq l : Int → Int) : Nat → Int → Int
  | 0 => l
  | n + 1 => alK μ sq (alY μ sq l n) ((n : Int) + 1) ((μ 23) ((n : Int) + 2) - (μ 23) ((n : Int) + 1)).toNat
def hLb (μ : MU) (l : Int → Int) : Prop := ∀ v : Int, 0 ≤ v → v < (μ 19 2) → 0 ≤ l v ∧ l v ≤ 1000
theorem dsr_b {μ : MU} {l : Int → Int} (hG : iG μ) (hL : iL μ) (hN : iN μ) (hl : hLb μ l) {v y : Int} (v0 : 0 ≤ v) (v1 : v < (μ 19 2)) : 0 ≤ dsr μ l v y ∧ dsr μ l v y ≤ 1000 := by
  have G := hG.1
  have b := dF_b (μ := μ) (l := l) (v := v) (y := y) (B := 1000) (by omega) (μ 1 1).toNat (fun e e0 e1 a b => by
    have x := (xOn_v hG hL hN e0 (show e < (μ 1 1) by omega) a (by omega)).1
    exact hl _ x.1 x.2)
  unfold dsr
  by_cases c : (dF μ l v y (μ 1 1).toNat).1 = 0
  · rw [if_pos c]; exact hl v v0 v1
  · rw [if_neg c]; exact b.2 _ (by omega) (by omega)
theorem alK_b {μ : MU} {sq pl l : Int → Int} {y : Int} (hG : iG μ) (hL : iL μ) (hN : iN μ) (hO : iO μ sq pl) (hl : hLb μ l) (y0 : 0 ≤ y) (y1 : y < (μ 9 1)) : ∀ j : Nat, (j : Int) ≤ (μ 23) (y + 1) - (μ 23) y → hLb μ (alK μ sq l y j) := by
  intro j
  induction j with
  | zero => intro _; exact hl
  | succ j ih =>
    intro hj
    have i := ih (by omega)
    have o := (hO.1 y y0 y1 ((μ 23) (y + 1) - 1 - j) (by omega) (by omega)).1
    have d := dsr_b (y := y) hG hL hN i o.1 o.2
    have a := i _ o.1 o.2
    intro v v0 v1
    unfold alK
    by_cases c : v = sq ((μ 23) (y + 1) - 1 - j)
    · rw [c, gUp_e]; omega
    · rw [gUp_n c]; exact i v v0 v1
theorem alY_b {μ : MU} {sq pl l : Int → Int} (hG : iG μ) (hL : iL μ) (hN : iN μ) (hO : iO μ sq pl) (hl : hLb μ l) : ∀ n : Nat, (n : Int) < (μ 9 1) ∨ n = 0 → hLb μ (alY μ sq l n) := by
  intro n
  induction n with
  | zero => intro _; exact hl
  | succ n ih =>
    intro hn
    have st := (iN_st hG hL hN).1 ((n : Int) + 1) (by omega) (by omega)
    rw [show (n : Int) + 1 + 1 = (n : Int) + 2 by omega] at st
    exact alK_b hG hL hN hO (ih (by omega)) (by omega) (by omega) _ (by rw [show (n : Int) + 1 + 1 = (n : Int) + 2 by omega]; omega)
theorem dF_c {μ ν : MU} (h : hSt μ ν) : dF ν = dF μ := by
  funext l v y n
  induction n with
  | zero => rfl
  | succ n ih => unfold dF; rw [ih, xOn_c h, h 14 (by decide) (by decide), h 15 (by decide) (by decide)]
theorem dsr_c {μ ν : MU} (h : hSt μ ν) : dsr ν = dsr μ := by
  funext l v y
  unfold dsr
  rw [dF_c h, h 1 (by decide) (by decide)]
theorem t_2 {D : Nat} (hD : 3 ≤ D) {μ : MU} {Q : GQ} (hG : iG μ) (hL : iL μ) (hN : iN μ) (hO : iO μ (μ 24) (μ 25)) (hX : hLB μ) (h : ∀ ν : MU, gFr [34, 35] μ ν → (ν 34) = alY μ (μ 24) (μ 34) ((μ 9 1) - 1).toNat → Q none g_SH ν) : gCall g_T g_F sN sX D 2 [gR 33] g_SH μ Q := by
  have G := hG.1
  have V := hN.1
  have L := hL.2.2.2.1
  obtain ⟨d, rfl⟩ := gD (show 1 ≤ D by omega)
  refine gC 300 [2] rfl ?_
  (conv => whnf); try simp only [gO, gWe, ne_eq, Nat.reduceEqDiff, not_false_eq_true, true_or, or_true, true_and]
  have out : ∀ y : Int, 1 ≤ y → y ≤ (if (μ 9 1) < 1 then 1 else (μ 9 1)) → ∀ (ρ : MU) (x2 x3 x4 x5 : GV), gFr [34, 35] μ ρ → (ρ 34) = alY μ (μ 24) (μ 34) (y - 1).toNat → gG g_T g_F (gCall g_T g_F sN sX d) sN sX (g_T 2) Q 2 [gR 33, gI y, x2, x3, x4, x5] [] g_SH ρ 0 0 := by
    refine g_up (fun y y0 y1 ih ρ x2 x3 x4 x5 hρ hl => ?_) (fun ρ x2 x3 x4 x5 hρ hl => ?_)
    · have y1' : y < (μ 9 1) := by
        by_cases c : (μ 9 1) < 1
        · rw [if_pos c] at y1; omega
        · rw [if_neg c] at y1; exact y1
      clear y1
      have st := (iN_st hG hL hN).1 y (by omega) y1'
      have lb := alY_b hG hL hN hO hX (y - 1).toNat (by omega)
      have e : alY μ (μ 24) (μ 34) (y + 1 - 1).toNat = alK μ (μ 24) (alY μ (μ 24) (μ 34) (y - 1).toNat) y ((μ 23) (y + 1) - (μ 23) y).toNat := by
        rw [show (y + 1 - 1).toNat = (y - 1).toNat + 1 by omega]
        show alK μ (μ 24) _ (((y - 1).toNat : Int) + 1) ((μ 23) (((y - 1).toNat : Int) + 2) - (μ 23) (((y - 1).toNat : Int) + 1)).toNat = _
        rw [show ((y - 1).toNat : Int) + 1 = y by omega, show ((y - 1).toNat : Int) + 2 = y + 1 by omega]
      rw [e] at ih
      generalize alY μ (μ 24) (μ 34) (y - 1).toNat = l at *
      have kb := alK_b hG hL hN hO lb (show 0 ≤ y by omega) y1'
      have inn : ∀ j : Int, 0 ≤ j → j ≤ (μ 23) (y + 1) - (μ 23) y → ∀ (ρ : MU) (lim : Int) (x4 x5 : GV), gFr [34, 35] μ ρ → (ρ 34) = alK μ (μ 24) l y j.toNat → lim = (if j = 0 then 1073741824 else alK μ (μ 24) l y j.toNat ((μ 24) ((μ 23) (y + 1) - 1 - j + 1)) - 1) → gG g_T g_F (gCall g_T g_F sN sX d) sN sX (g_T 2) Q 30 [gR 33, gI y, gI lim, gI ((μ 23) (y + 1) - 1 - j), x4, x5] [] g_SH ρ 0 0 := by
        refine g_up (fun j j0 j1 ihj ρ lim x4 x5 hρ hl hlim => ?_) (fun ρ lim x4 x5 hρ hl hlim => ?_)
        · have sρ : hSt μ ρ := hρ.st (by decide)
          have f23 : (ρ 23) = (μ 23) := sρ 23 (by decide) (by decide)
          have f24 : (ρ 24) = (μ 24) := hρ 24 (by decide)
          have f23y : (ρ 23) y = (μ 23) y := by rw [f23]
          have o := (hO.1 y (by omega) y1' ((μ 23) (y + 1) - 1 - j) (by omega) (by omega)).1
          have kj := kb j.toNat (by omega)
          have dj := dsr_b (y := y) hG hL hN kj o.1 o.2
          have aj := kj _ o.1 o.2
          have wj := xWd_b hG o.1
          have lb1 : -1 ≤ lim ∧ lim ≤ 1073741824 := by
            by_cases c : j = 0
            · rw [if_pos c] at hlim; omega
            · rw [if_neg c] at hlim
              have o2 := (hO.1 y (by omega) y1' ((μ 23) (y + 1) - 1 - j + 1) (by omega) (by omega)).1
              have := kj _ o2.1 o2.2
              omega
          have hXρ : hLB ρ := fun v v0 v1 => by
            rw [sρ 19 (by decide) (by decide)] at v1
            rw [hl]
            exact kj v v0 v1
          have nx : ∀ (ρ' : MU) (w l' x4 x5 : Int), gFr [35] ρ ρ' → w = max (alK μ (μ 24) l y j.toNat ((μ 24) ((μ 23) (y + 1) - 1 - j))) (min (dsr μ (alK μ (μ 24) l y j.toNat) ((μ 24) ((μ 23) (y + 1) - 1 - j)) y) (lim - xWd μ ((μ 24) ((μ 23) (y + 1) - 1 - j)))) → l' = w - 1 → gG g_T g_F (gCall g_T g_F sN sX d) sN sX (g_T 2) Q 30 [gR 33, gI y, gI l', gI ((μ 23) (y + 1) - 1 - j - 1), gI x4, gI x5] [] g_SH (gW ρ' 34 ((μ 24) ((μ 23) (y + 1) - 1 - j)) w) 0 0 := by
            intro ρ' w l' x4 x5 hρ' hw hl'
            have st1 : alK μ (μ 24) l y (j + 1).toNat = gUp (alK μ (μ 24) l y j.toNat) ((μ 24) ((μ 23) (y + 1) - 1 - j)) w := by
              rw [show (j + 1).toNat = j.toNat + 1 by omega]
              rw [alK_s, show ((j.toNat : Nat) : Int) = j by omega, hw, hlim]
              by_cases c : j = 0
              · rw [if_pos c, if_pos (by omega)]
              · rw [if_neg c, if_neg (by omega)]
            have i := ihj (gW ρ' 34 ((μ 24) ((μ 23) (y + 1) - 1 - j)) w) l' (gI x4) (gI x5) ((hρ.tr (hρ'.mo (by decide))).W (by decide)) (by rw [gW_up, st1, hρ' 34 (by decide), hl]) (by
              rw [if_neg (by omega), st1, show (μ 23) (y + 1) - 1 - (j + 1) + 1 = (μ 23) (y + 1) - 1 - j by omega, gUp_e]
              exact hl')
            rw [show (μ 23) (y + 1) - 1 - (j + 1) = (μ 23) (y + 1) - 1 - j - 1 by omega] at i
            exact i
          clear ihj ih h hlim
          generalize alK μ (μ 24) l y j.toNat = a at *
          have e5 : dsr ρ (ρ 34) ((ρ 24) ((μ 23) (y + 1) - 1 - j)) y = dsr μ a ((μ 24) ((μ 23) (y + 1) - 1 - j)) y := by rw [dsr_c sρ, hl, f24]
          have e6 : xWd ρ ((ρ 24) ((μ 23) (y + 1) - 1 - j)) = xWd μ ((μ 24) ((μ 23) (y + 1) - 1 - j)) := by rw [xWd_c sρ, f24]
          have o' : 0 ≤ (ρ 24) ((μ 23) (y + 1) - 1 - j) ∧ (ρ 24) ((μ 23) (y + 1) - 1 - j) < (μ 19 2) := by rw [f24]; exact o
          refine gB_gG [30] 300 ?_
          (conv => whnf); try simp only [gO, gWe, ne_eq, Nat.reduceEqDiff, not_false_eq_true, true_or, or_true, true_and]
          repeat' (first | exact True.intro | (refine ⟨fun hb => ?_, fun hb => ?_⟩ <;> first | (exfalso; omega; done) | exact absurd True.intro hb | ((conv => whnf); try simp only [gO, gWe, ne_eq, Nat.reduceEqDiff, not_false_eq_true, true_or, or_true, true_and])) | (refine ⟨by omega, ?_⟩; (conv => whnf); try simp only [gO, gWe, ne_eq, Nat.reduceEqDiff, not_false_eq_true, true_or, or_true, true_and]) | (refine ⟨fun hb => ?_, ?_⟩ <;> first | (exfalso; omega; done) | exact absurd True.intro hb | ((conv => whnf); try simp only [gO, gWe, ne_eq, Nat.reduceEqDiff, not_false_eq_true, true_or, or_true, true_and])) | fail)
          refine t_3 (by omega) (iG_c sρ hG) (iL_c sρ hL) (iN_c sρ hN) hXρ o'.1 (by rw [sρ 19 (by decide) (by decide)]; exact o'.2) (by omega) (fun ρ' hρ' => ?_)
          rw [e5]
          have s2 := hρ'.st (l := [35]) (by decide)
          have q34 : ρ' 34 ((ρ 24) ((μ 23) (y + 1) - 1 - j)) = a ((μ 24) ((μ 23) (y + 1) - 1 - j)) := by rw [hρ' 34 (by decide), hl, f24]
          (conv => whnf); try simp only [gO, gWe, ne_eq, Nat.reduceEqDiff, not_false_eq_true, true_or, or_true, true_and]
          repeat' (first | exact True.intro | (refine ⟨fun hb => ?_, fun hb => ?_⟩ <;> first | (exfalso; omega; done) | exact absurd True.intro hb | ((conv => whnf); try simp only [gO, gWe, ne_eq, Nat.reduceEqDiff, not_false_eq_true, true_or, or_true, true_and])) | (refine ⟨by omega, ?_⟩; (conv => whnf); try simp only [gO, gWe, ne_eq, Nat.reduceEqDiff, not_false_eq_true, true_or, or_true, true_and]) | (refine ⟨fun hb => ?_, ?_⟩ <;> first | (exfalso; omega; done) | exact absurd True.intro hb | ((conv => whnf); try simp only [gO, gWe, ne_eq, Nat.reduceEqDiff, not_false_eq_true, true_or, or_true, true_and])) | fail)
          refine t_42 (by omega) (iG_c (sρ.tr s2) hG) o'.1 ?_
          rw [xWd_c s2, e6]
          (conv => whnf); try simp only [gO, gWe, ne_eq, Nat.reduceEqDiff, not_false_eq_true, true_or, or_true, true_and]
          repeat' (first | exact True.intro | (refine ⟨fun hb => ?_, fun hb => ?_⟩ <;> first | (exfalso; omega; done) | exact absurd True.intro hb | ((conv => whnf); try simp only [gO, gWe, ne_eq, Nat.reduceEqDiff, not_false_eq_true, true_or, or_true, true_and])) | (refine ⟨by omega, ?_⟩; (conv => whnf); try simp only [gO, gWe, ne_eq, Nat.reduceEqDiff, not_false_eq_true, true_or, or_true, true_and]) | (refine ⟨fun hb => ?_, ?_⟩ <;> first | (exfalso; omega; done) | exact absurd True.intro hb | ((conv => whnf); try simp only [gO, gWe, ne_eq, Nat.reduceEqDiff, not_false_eq_true, true_or, or_true, true_and])) | fail)
          rw [q34, f24]
          (conv => whnf); try simp only [gO, gWe, ne_eq, Nat.reduceEqDiff, not_false_eq_true, true_or, or_true, true_and]
          repeat' (first | exact True.intro | (refine ⟨fun hb => ?_, fun hb => ?_⟩ <;> first | (exfalso; omega; done) | exact absurd True.intro hb | ((conv => whnf); try simp only [gO, gWe, ne_eq, Nat.reduceEqDiff, not_false_eq_true, true_or, or_true, true_and])) | (refine ⟨by omega, ?_⟩; (conv => whnf); try simp only [gO, gWe, ne_eq, Nat.reduceEqDiff, not_false_eq_true, true_or, or_true, true_and]) | (refine ⟨fun hb => ?_, ?_⟩ <;> first | (exfalso; omega; done) | exact absurd True.intro hb | ((conv => whnf); try simp only [gO, gWe, ne_eq, Nat.reduceEqDiff, not_false_eq_true, true_or, or_true, true_and])) | fail)
          refine nx ρ' _ _ _ _ hρ' rfl rfl
        · have sρ : hSt μ ρ := hρ.st (by decide)
          have f23y : (ρ 23) y = (μ 23) y := by rw [sρ 23 (by decide) (by decide)]
          have i := ih ρ (gI lim) (gI ((μ 23) (y + 1) - 1 - ((μ 23) (y + 1) - (μ 23) y))) x4 x5 hρ hl
          clear ih h hlim
          refine gB_gG [30,2] 300 ?_
          (conv => whnf); try simp only [gO, gWe, ne_eq, Nat.reduceEqDiff, not_false_eq_true, true_or, or_true, true_and]
          repeat' (first | exact True.intro | (refine ⟨fun hb => ?_, fun hb => ?_⟩ <;> first | (exfalso; omega; done) | exact absurd True.intro hb | ((conv => whnf); try simp only [gO, gWe, ne_eq, Nat.reduceEqDiff, not_false_eq_true, true_or, or_true, true_and])) | (refine ⟨by omega, ?_⟩; (conv => whnf); try simp only [gO, gWe, ne_eq, Nat.reduceEqDiff, not_false_eq_true, true_or, or_true, true_and]) | (refine ⟨fun hb => ?_, ?_⟩ <;> first | (exfalso; omega; done) | exact absurd True.intro hb | ((conv => whnf); try simp only [gO, gWe, ne_eq, Nat.reduceEqDiff, not_false_eq_true, true_or, or_true, true_and])) | fail)
          exact i
      have sρ : hSt μ ρ := hρ.st (by decide)
      have f23y : (ρ 23) (y + 1) = (μ 23) (y + 1) := by rw [sρ 23 (by decide) (by decide)]
      have f9 : (ρ 9 1) = (μ 9 1) := by rw [sρ 9 (by decide) (by decide)]
      have i := inn 0 (by omega) (by omega) ρ 1073741824 x4 x5 hρ hl rfl
      rw [show (μ 23) (y + 1) - 1 - 0 = (μ 23) (y + 1) - 1 by omega, ← f23y] at i
      clear inn ih h
      refine gB_gG [2,30] 300 ?_
      (conv => whnf); try simp only [gO, gWe, ne_eq, Nat.reduceEqDiff, not_false_eq_true, true_or, or_true, true_and]
      repeat' (first | exact True.intro | (refine ⟨fun hb => ?_, fun hb => ?_⟩ <;> first | (exfalso; omega; done) | exact absurd True.intro hb | ((conv => whnf); try simp only [gO, gWe, ne_eq, Nat.reduceEqDiff, not_false_eq_true, true_or, or_true, true_and])) | (refine ⟨by omega, ?_⟩; (conv => whnf); try simp only [gO, gWe, ne_eq, Nat.reduceEqDiff, not_false_eq_true, true_or, or_true, true_and]) | (refine ⟨fun hb => ?_, ?_⟩ <;> first | (exfalso; omega; done) | exact absurd True.intro hb | ((conv => whnf); try simp only [gO, gWe, ne_eq, Nat.reduceEqDiff, not_false_eq_true, true_or, or_true, true_and])) | fail)
      exact i
    · have sρ : hSt μ ρ := hρ.st (by decide)
      have f9 : (ρ 9 1) = (μ 9 1) := by rw [sρ 9 (by decide) (by decide)]
      have f : Q none g_SH ρ := h ρ hρ (by
        rw [hl]
        by_cases c : (μ 9 1) < 1
        · rw [if_pos c, show (1 - 1 : Int).toNat = ((μ 9 1) - 1).toNat by omega]
        · rw [if_neg c])
      clear h
      by_cases c : (μ 9 1) < 1
      · rw [if_pos c]
        refine gB_gG [2] 300 ?_
        (conv => whnf); try simp only [gO, gWe, ne_eq, Nat.reduceEqDiff, not_false_eq_true, true_or, or_true, true_and]
        repeat' (first | exact True.intro | (refine ⟨fun hb => ?_, fun hb => ?_⟩ <;> first | (exfalso; omega; done) | exact absurd True.intro hb | ((conv => whnf); try simp only [gO, gWe, ne_eq, Nat.reduceEqDiff, not_false_eq_true, true_or, or_true, true_and])) | (refine ⟨by omega, ?_⟩; (conv => whnf); try simp only [gO, gWe, ne_eq, Nat.reduceEqDiff, not_false_eq_true, true_or, or_true, true_and]) | (refine ⟨fun hb => ?_, ?_⟩ <;> first | (exfalso; omega; done) | exact absurd True.intro hb | ((conv => whnf); try simp only [gO, gWe, ne_eq, Nat.reduceEqDiff, not_false_eq_true, true_or, or_true, true_and])) | fail)
        exact f
      · rw [if_neg c]
        refine gB_gG [2] 300 ?_
        (conv => whnf); try simp only [gO, gWe, ne_eq, Nat.reduceEqDiff, not_false_eq_true, true_or, or_true, true_and]
        repeat' (first | exact True.intro | (refine ⟨fun hb => ?_, fun hb => ?_⟩ <;> first | (exfalso; omega; done) | exact absurd True.intro hb | ((conv => whnf); try simp only [gO, gWe, ne_eq, Nat.reduceEqDiff, not_false_eq_true, true_or, or_true, true_and])) | (refine ⟨by omega, ?_⟩; (conv => whnf); try simp only [gO, gWe, ne_eq, Nat.reduceEqDiff, not_false_eq_true, true_or, or_true, true_and]) | (refine ⟨fun hb => ?_, ?_⟩ <;> first | (exfalso; omega; done) | exact absurd True.intro hb | ((conv => whnf); try simp only [gO, gWe, ne_eq, Nat.reduceEqDiff, not_false_eq_true, true_or, or_true, true_and])) | fail)
        exact f
  exact out 1 (by omega) (by split <;> omega) μ _ _ _ _ gFr.rf rfl
