variable {sN : Int} {sX : Int → Int}
/-! an edge of a text -/
def pE1 (hr : Int → Int) (n p : Int) : Int × Int := pNum hr n (-1) p
def pE2 (hr : Int → Int) (n p : Int) : Int × Int := pOpt hr 46 0 7 0 (pE1 hr n p).2
def pE3 (hr : Int → Int) (n p : Int) : Int × Int := pNum hr n (pE1 hr n p).1 ((pE2 hr n p).2 + 1)
def pE4 (hr : Int → Int) (n p : Int) : Int × Int := pOpt hr 46 0 7 0 (pE3 hr n p).2
def pE5 (hr : Int → Int) (n p : Int) : Int × Int := pOpt hr 61 1 3 1 (pE4 hr n p).2
def pOk (hr : Int → Int) (n p : Int) : Prop := 0 ≤ (pE1 hr n p).1 ∧ 0 ≤ (pE2 hr n p).1 ∧ hr (pE2 hr n p).2 = 62 ∧ 0 ≤ (pE3 hr n p).1 ∧ 0 ≤ (pE4 hr n p).1 ∧ 0 ≤ (pE5 hr n p).1 ∧ hr (pE5 hr n p).2 = 59
def pPs (hr : Int → Int) (n p : Int) : Int :=
  if (pE1 hr n p).1 < 0 then (pE1 hr n p).2 else if (pE2 hr n p).1 < 0 then (pE2 hr n p).2 else if hr (pE2 hr n p).2 ≠ 62 then (pE2 hr n p).2 else if (pE3 hr n p).1 < 0 then (pE3 hr n p).2
  else if (pE4 hr n p).1 < 0 then (pE4 hr n p).2 else if (pE5 hr n p).1 < 0 then (pE5 hr n p).2 else if hr (pE5 hr n p).2 ≠ 59 then (pE5 hr n p).2 else (pE5 hr n p).2 + 1
theorem pNum_b {hr : Int → Int} {n b p : Int} (hn : 0 ≤ n) : (p ≤ (pNum hr n b p).2 ∧ (pNum hr n b p).2 ≤ p + 2) ∧ (-1 ≤ (pNum hr n b p).1 ∧ (0 ≤ (pNum hr n b p).1 → (pNum hr n b p).1 < n ∧ (pNum hr n b p).1 ≠ b ∧ p + 1 ≤ (pNum hr n b p).2)) ∧ ((pNum hr n b p).1 ≤ 12 ∨ n > 12) := by
  unfold pNum
  split
  · split
    · split
      · refine ⟨by simp only; omega, by simp only; omega, by simp only; omega⟩
      · refine ⟨by simp only; omega, by simp only; omega, by simp only; omega⟩
    · split
      · refine ⟨by simp only; omega, by simp only; omega, by simp only; omega⟩
      · refine ⟨by simp only; omega, by simp only; omega, by simp only; omega⟩
  · refine ⟨by simp only; omega, by simp only; omega, by simp only; omega⟩
theorem pOpt_b {hr : Int → Int} {sg lo hi ot p : Int} (hot : 0 ≤ ot) (hlo : 0 ≤ lo) (hlh : lo ≤ ot ∧ ot ≤ hi) : (p ≤ (pOpt hr sg lo hi ot p).2 ∧ (pOpt hr sg lo hi ot p).2 ≤ p + 2) ∧ -1 ≤ (pOpt hr sg lo hi ot p).1 ∧ (0 ≤ (pOpt hr sg lo hi ot p).1 → lo ≤ (pOpt hr sg lo hi ot p).1 ∧ (pOpt hr sg lo hi ot p).1 ≤ hi) ∧ (pOpt hr sg lo hi ot p).1 ≤ hi := by
  unfold pOpt
  split
  · split
    · refine ⟨by simp only; omega, by simp only; omega, by simp only; omega, by simp only; omega⟩
    · refine ⟨by simp only; omega, by simp only; omega, by simp only; omega, by simp only; omega⟩
  · refine ⟨by simp only; omega, by simp only; omega, by simp only; omega, by simp only; omega⟩
theorem pNum_n {hr : Int → Int} {n p : Int} : pNum hr n (-4) p = pNum hr n (-1) p := by
  unfold pNum
  by_cases c : 48 ≤ hr p ∧ hr p ≤ 57
  · rw [if_pos c, if_pos c]
    by_cases d : 48 < hr p ∧ 48 ≤ hr (p + 1) ∧ hr (p + 1) ≤ 57
    · rw [if_pos d, if_pos d]
      by_cases e : 10 * (hr p - 48) + (hr (p + 1) - 48) < n
      · rw [if_pos ⟨e, by omega⟩, if_pos ⟨e, by omega⟩]
      · rw [if_neg (fun hh => e hh.1), if_neg (fun hh => e hh.1)]
    · rw [if_neg d, if_neg d]
      by_cases e : hr p - 48 < n
      · rw [if_pos ⟨e, by omega⟩, if_pos ⟨e, by omega⟩]
      · rw [if_neg (fun hh => e hh.1), if_neg (fun hh => e hh.1)]
  · rw [if_neg c, if_neg c]
theorem pE_b {hr : Int → Int} {n p : Int} (hn : 0 ≤ n) : (p ≤ (pE1 hr n p).2 ∧ (pE1 hr n p).2 ≤ p + 2) ∧ ((pE1 hr n p).2 ≤ (pE2 hr n p).2 ∧ (pE2 hr n p).2 ≤ p + 4) ∧ ((pE2 hr n p).2 + 1 ≤ (pE3 hr n p).2 ∧ (pE3 hr n p).2 ≤ p + 7) ∧ ((pE3 hr n p).2 ≤ (pE4 hr n p).2 ∧ (pE4 hr n p).2 ≤ p + 9) ∧ ((pE4 hr n p).2 ≤ (pE5 hr n p).2 ∧ (pE5 hr n p).2 ≤ p + 11) := by
  have a := (pNum_b (hr := hr) (n := n) (b := -1) (p := p) hn).1
  have b := (pOpt_b (hr := hr) (sg := 46) (lo := 0) (hi := 7) (ot := 0) (p := (pE1 hr n p).2) (by omega) (by omega) (by omega)).1
  have c := (pNum_b (hr := hr) (n := n) (b := (pE1 hr n p).1) (p := (pE2 hr n p).2 + 1) hn).1
  have d := (pOpt_b (hr := hr) (sg := 46) (lo := 0) (hi := 7) (ot := 0) (p := (pE3 hr n p).2) (by omega) (by omega) (by omega)).1
  have e := (pOpt_b (hr := hr) (sg := 61) (lo := 1) (hi := 3) (ot := 1) (p := (pE4 hr n p).2) (by omega) (by omega) (by omega)).1
  have e1 : pE1 hr n p = pNum hr n (-1) p := rfl
  have e2 : pE2 hr n p = pOpt hr 46 0 7 0 (pE1 hr n p).2 := rfl
  have e3 : pE3 hr n p = pNum hr n (pE1 hr n p).1 ((pE2 hr n p).2 + 1) := rfl
  have e4 : pE4 hr n p = pOpt hr 46 0 7 0 (pE3 hr n p).2 := rfl
  have e5 : pE5 hr n p = pOpt hr 61 1 3 1 (pE4 hr n p).2 := rfl
  rw [← e1] at a
  rw [← e2] at b
  rw [← e3] at c
  rw [← e4] at d
  rw [← e5] at e
  omega
theorem pE_v {hr : Int → Int} {n p : Int} (hn : 0 ≤ n) : (-1 ≤ (pE1 hr n p).1 ∧ (0 ≤ (pE1 hr n p).1 → (pE1 hr n p).1 < n ∧ p + 1 ≤ (pE1 hr n p).2)) ∧ (-1 ≤ (pE2 hr n p).1 ∧ (pE2 hr n p).1 ≤ 7) ∧ (-1 ≤ (pE3 hr n p).1 ∧ (0 ≤ (pE3 hr n p).1 → (pE3 hr n p).1 < n ∧ (pE3 hr n p).1 ≠ (pE1 hr n p).1 ∧ (pE2 hr n p).2 + 2 ≤ (pE3 hr n p).2)) ∧ (-1 ≤ (pE4 hr n p).1 ∧ (pE4 hr n p).1 ≤ 7) ∧ (-1 ≤ (pE5 hr n p).1 ∧ (0 ≤ (pE5 hr n p).1 → 1 ≤ (pE5 hr n p).1) ∧ (pE5 hr n p).1 ≤ 3) := by
  have a := (pNum_b (hr := hr) (n := n) (b := -1) (p := p) hn).2.1
  have b := (pOpt_b (hr := hr) (sg := 46) (lo := 0) (hi := 7) (ot := 0) (p := (pE1 hr n p).2) (by omega) (by omega) (by omega)).2
  have c := (pNum_b (hr := hr) (n := n) (b := (pE1 hr n p).1) (p := (pE2 hr n p).2 + 1) hn).2.1
  have d := (pOpt_b (hr := hr) (sg := 46) (lo := 0) (hi := 7) (ot := 0) (p := (pE3 hr n p).2) (by omega) (by omega) (by omega)).2
  have e := (pOpt_b (hr := hr) (sg := 61) (lo := 1) (hi := 3) (ot := 1) (p := (pE4 hr n p).2) (by omega) (by omega) (by omega)).2
  refine ⟨⟨a.1, fun h => ⟨(a.2 h).1, (a.2 h).2.2⟩⟩, ⟨b.1, b.2.2⟩, ⟨c.1, fun h => ⟨(c.2 h).1, (c.2 h).2.1, ?_⟩⟩, ⟨d.1, d.2.2⟩, ⟨e.1, fun h => (e.2.1 h).1, e.2.2⟩⟩
  have := (c.2 h).2.2
  have e3 : (pE2 hr n p).2 + 1 + 1 ≤ (pE3 hr n p).2 := this
  omega
theorem hT_c {μ ν : MU} (h1 : ν 36 1 = μ 36 1) (h2 : ν 37 = μ 37) (hT : hTx μ) : hTx ν ∧ pHr (ν 37) (ν 36 1) = pHr (μ 37) (μ 36 1) := by
  unfold hTx
  rw [h1, h2]
  exact ⟨hT, rfl⟩
def hEd (μ ν : MU) : Prop := gFr [36] μ ν ∧ ν 36 1 = μ 36 1 ∧ ν 36 3 = μ 36 3
theorem hEd.P {μ ν ρ : MU} {q : Int} (h : hEd μ ν) (h' : hPs ν ρ q) : hEd μ ρ := ⟨h.1.tr h'.1, (h'.2.2 1 (by decide)).trans h.2.1, (h'.2.2 3 (by decide)).trans h.2.2⟩
theorem hEd.W {μ ν : MU} {j v : Int} (h : hEd μ ν) (h1 : j ≠ 1) (h3 : j ≠ 3) : hEd μ (gW ν 36 j v) := ⟨h.1.W (by decide), by rw [gWn _ _ _ (Ne.symm h1)]; exact h.2.1, by rw [gWn _ _ _ (Ne.symm h3)]; exact h.2.2⟩
theorem t_69 {D : Nat} (hD : 4 ≤ D) {μ : MU} {Q : GQ} {n p : Int} {hr : Int → Int} (hh0 : pHr (μ 37) (μ 36 1) = hr) (hT : hTx μ) (hp : (μ 36 2) = p) (p0 : 0 ≤ p ∧ p ≤ 100) (hn : 0 ≤ n ∧ n ≤ 12)
    (k1 : pOk hr n p → ∀ ν : MU, hEd μ ν → ν 36 2 = pPs hr n p → (ν 36 4 = (pE1 hr n p).1 ∧ ν 36 5 = (pE3 hr n p).1 ∧ ν 36 6 = (pE2 hr n p).1 ∧ ν 36 7 = (pE4 hr n p).1 ∧ ν 36 8 = (pE5 hr n p).1) → Q (some (gI (1))) g_SH ν)
    (k0 : ¬ pOk hr n p → ∀ ν : MU, hEd μ ν → ν 36 2 = pPs hr n p → Q (some (gI (0))) g_SH ν) : gCall g_T g_F sN sX D 69 [gR 36, gI n] g_SH μ Q := by
  have bb := pE_b (hr := hr) (n := n) (p := p) hn.1
  have vv := pE_v (hr := hr) (n := n) (p := p) hn.1
  have E0 : hEd μ μ := ⟨gFr.rf, rfl, rfl⟩
  unfold pOk pPs at k1 k0
  obtain ⟨d, rfl⟩ := gD (show 1 ≤ D by omega)
  refine gC 300 [] rfl ?_
  (conv => whnf); try simp only [gO, gWe, ne_eq, Nat.reduceEqDiff, not_false_eq_true, true_or, or_true, true_and]
  refine t_70 (by omega) (p := p) hT hp (by omega) hn (by omega) (fun ν₁ h1 => ?_)
  rw [hh0, pNum_n] at h1 ⊢
  rw [show pNum hr n (-1) p = pE1 hr n p from rfl] at h1 ⊢
  have E1 := (E0.P h1).W (j := 4) (v := (pE1 hr n p).1) (by decide) (by decide)
  have T1 := hT_c E1.2.1 (E1.1 37 (by decide)) hT
  have P1 : gW ν₁ 36 4 (pE1 hr n p).1 36 2 = (pE1 hr n p).2 := by rw [gWn _ _ _ (by decide)]; exact h1.2.1
  by_cases c1 : (pE1 hr n p).1 < 0
  · have f := k0 (fun hh => by omega) _ E1 (by rw [if_pos c1]; exact P1)
    clear k1 k0 T1 bb
    (conv => whnf); try simp only [gO, gWe, ne_eq, Nat.reduceEqDiff, not_false_eq_true, true_or, or_true, true_and]
    repeat' (first | exact True.intro | (refine ⟨fun hb => ?_, fun hb => ?_⟩ <;> first | (exfalso; omega; done) | exact absurd True.intro hb | ((conv => whnf); try simp only [gO, gWe, ne_eq, Nat.reduceEqDiff, not_false_eq_true, true_or, or_true, true_and])) | (refine ⟨by omega, ?_⟩; (conv => whnf); try simp only [gO, gWe, ne_eq, Nat.reduceEqDiff, not_false_eq_true, true_or, or_true, true_and]) | (refine ⟨fun hb => ?_, ?_⟩ <;> first | (exfalso; omega; done) | exact absurd True.intro hb | ((conv => whnf); try simp only [gO, gWe, ne_eq, Nat.reduceEqDiff, not_false_eq_true, true_or, or_true, true_and])) | fail)
    exact f
  · rw [if_neg c1] at k1 k0
    have F4 : gW ν₁ 36 4 (pE1 hr n p).1 36 4 = (pE1 hr n p).1 := gWe _ _ _ _
    (conv => whnf); try simp only [gO, gWe, ne_eq, Nat.reduceEqDiff, not_false_eq_true, true_or, or_true, true_and]
    repeat' (first | exact True.intro | (refine ⟨fun hb => ?_, fun hb => ?_⟩ <;> first | (exfalso; omega; done) | exact absurd True.intro hb | ((conv => whnf); try simp only [gO, gWe, ne_eq, Nat.reduceEqDiff, not_false_eq_true, true_or, or_true, true_and])) | (refine ⟨by omega, ?_⟩; (conv => whnf); try simp only [gO, gWe, ne_eq, Nat.reduceEqDiff, not_false_eq_true, true_or, or_true, true_and]) | (refine ⟨fun hb => ?_, ?_⟩ <;> first | (exfalso; omega; done) | exact absurd True.intro hb | ((conv => whnf); try simp only [gO, gWe, ne_eq, Nat.reduceEqDiff, not_false_eq_true, true_or, or_true, true_and])) | fail)
    generalize gW ν₁ 36 4 (pE1 hr n p).1 = m₁ at *
    refine t_71 (by omega) (p := (pE1 hr n p).2) T1.1 P1 (by omega) (by omega) (by omega) (fun ν₂ h2 => ?_)
    rw [T1.2, hh0, show pOpt hr 46 (48 - 48) (55 - 48) 0 (pE1 hr n p).2 = pE2 hr n p from rfl] at h2
    rw [T1.2, hh0, show pOpt hr 46 (48 - 48) (55 - 48) 0 (pE1 hr n p).2 = pE2 hr n p from rfl]
    have E2 := (E1.P h2).W (j := 6) (v := (pE2 hr n p).1) (by decide) (by decide)
    have T2 := hT_c E2.2.1 (E2.1 37 (by decide)) hT
    have P2 : gW ν₂ 36 6 (pE2 hr n p).1 36 2 = (pE2 hr n p).2 := by rw [gWn _ _ _ (by decide)]; exact h2.2.1
    have F42 : gW ν₂ 36 6 (pE2 hr n p).1 36 4 = (pE1 hr n p).1 := by rw [gWn _ _ _ (by decide), h2.2.2 4 (by decide)]; exact F4
    by_cases c2 : (pE2 hr n p).1 < 0
    · have f := k0 (fun hh => by omega) _ E2 (by rw [if_pos c2]; exact P2)
      clear k1 k0 T1 T2 bb
      (conv => whnf); try simp only [gO, gWe, ne_eq, Nat.reduceEqDiff, not_false_eq_true, true_or, or_true, true_and]
      repeat' (first | exact True.intro | (refine ⟨fun hb => ?_, fun hb => ?_⟩ <;> first | (exfalso; omega; done) | exact absurd True.intro hb | ((conv => whnf); try simp only [gO, gWe, ne_eq, Nat.reduceEqDiff, not_false_eq_true, true_or, or_true, true_and])) | (refine ⟨by omega, ?_⟩; (conv => whnf); try simp only [gO, gWe, ne_eq, Nat.reduceEqDiff, not_false_eq_true, true_or, or_true, true_and]) | (refine ⟨fun hb => ?_, ?_⟩ <;> first | (exfalso; omega; done) | exact absurd True.intro hb | ((conv => whnf); try simp only [gO, gWe, ne_eq, Nat.reduceEqDiff, not_false_eq_true, true_or, or_true, true_and])) | fail)
      exact f
    · rw [if_neg c2] at k1 k0
      have F62 : gW ν₂ 36 6 (pE2 hr n p).1 36 6 = (pE2 hr n p).1 := gWe _ _ _ _
      (conv => whnf); try simp only [gO, gWe, ne_eq, Nat.reduceEqDiff, not_false_eq_true, true_or, or_true, true_and]
      repeat' (first | exact True.intro | (refine ⟨fun hb => ?_, fun hb => ?_⟩ <;> first | (exfalso; omega; done) | exact absurd True.intro hb | ((conv => whnf); try simp only [gO, gWe, ne_eq, Nat.reduceEqDiff, not_false_eq_true, true_or, or_true, true_and])) | (refine ⟨by omega, ?_⟩; (conv => whnf); try simp only [gO, gWe, ne_eq, Nat.reduceEqDiff, not_false_eq_true, true_or, or_true, true_and]) | (refine ⟨fun hb => ?_, ?_⟩ <;> first | (exfalso; omega; done) | exact absurd True.intro hb | ((conv => whnf); try simp only [gO, gWe, ne_eq, Nat.reduceEqDiff, not_false_eq_true, true_or, or_true, true_and])) | fail)
      generalize gW ν₂ 36 6 (pE2 hr n p).1 = m₂ at *
      refine t_73 (by omega) (p := (pE2 hr n p).2) T2.1 P2 (by omega) (by omega) (fun c3 => ?_) (fun c3 => ?_)
      · rw [T2.2, hh0] at c3
        rw [if_neg (not_not_intro c3)] at k1 k0
        have E3 := E2.W (j := 2) (v := (pE2 hr n p).2 + 1) (by decide) (by decide)
        have T3 := hT_c E3.2.1 (E3.1 37 (by decide)) hT
        have P3 : gW m₂ 36 2 ((pE2 hr n p).2 + 1) 36 2 = (pE2 hr n p).2 + 1 := gWe _ _ _ _
        have F43 : gW m₂ 36 2 ((pE2 hr n p).2 + 1) 36 4 = (pE1 hr n p).1 := by rw [gWn _ _ _ (by decide)]; exact F42
        have F63 : gW m₂ 36 2 ((pE2 hr n p).2 + 1) 36 6 = (pE2 hr n p).1 := by rw [gWn _ _ _ (by decide)]; exact F62
        generalize gW m₂ 36 2 ((pE2 hr n p).2 + 1) = m₃ at *
        (conv => whnf); try simp only [gO, gWe, ne_eq, Nat.reduceEqDiff, not_false_eq_true, true_or, or_true, true_and]
        repeat' (first | exact True.intro | (refine ⟨fun hb => ?_, fun hb => ?_⟩ <;> first | (exfalso; omega; done) | exact absurd True.intro hb | ((conv => whnf); try simp only [gO, gWe, ne_eq, Nat.reduceEqDiff, not_false_eq_true, true_or, or_true, true_and])) | (refine ⟨by omega, ?_⟩; (conv => whnf); try simp only [gO, gWe, ne_eq, Nat.reduceEqDiff, not_false_eq_true, true_or, or_true, true_and]) | (refine ⟨fun hb => ?_, ?_⟩ <;> first | (exfalso; omega; done) | exact absurd True.intro hb | ((conv => whnf); try simp only [gO, gWe, ne_eq, Nat.reduceEqDiff, not_false_eq_true, true_or, or_true, true_and])) | fail)
        rw [F43]
        refine t_70 (by omega) (p := (pE2 hr n p).2 + 1) T3.1 P3 (by omega) hn (by omega) (fun ν₄ h4 => ?_)
        rw [T3.2, hh0, show pNum hr n (pE1 hr n p).1 ((pE2 hr n p).2 + 1) = pE3 hr n p from rfl] at h4
        rw [T3.2, hh0, show pNum hr n (pE1 hr n p).1 ((pE2 hr n p).2 + 1) = pE3 hr n p from rfl]
        have E4 := (E3.P h4).W (j := 5) (v := (pE3 hr n p).1) (by decide) (by decide)
        have T4 := hT_c E4.2.1 (E4.1 37 (by decide)) hT
        have P4 : gW ν₄ 36 5 (pE3 hr n p).1 36 2 = (pE3 hr n p).2 := by rw [gWn _ _ _ (by decide)]; exact h4.2.1
        have F44 : gW ν₄ 36 5 (pE3 hr n p).1 36 4 = (pE1 hr n p).1 := by rw [gWn _ _ _ (by decide), h4.2.2 4 (by decide)]; exact F43
        have F64 : gW ν₄ 36 5 (pE3 hr n p).1 36 6 = (pE2 hr n p).1 := by rw [gWn _ _ _ (by decide), h4.2.2 6 (by decide)]; exact F63
        by_cases c4 : (pE3 hr n p).1 < 0
        · have f := k0 (fun hh => by omega) _ E4 (by rw [if_pos c4]; exact P4)
          clear k1 k0 T1 T2 T3 T4 bb
          (conv => whnf); try simp only [gO, gWe, ne_eq, Nat.reduceEqDiff, not_false_eq_true, true_or, or_true, true_and]
          repeat' (first | exact True.intro | (refine ⟨fun hb => ?_, fun hb => ?_⟩ <;> first | (exfalso; omega; done) | exact absurd True.intro hb | ((conv => whnf); try simp only [gO, gWe, ne_eq, Nat.reduceEqDiff, not_false_eq_true, true_or, or_true, true_and])) | (refine ⟨by omega, ?_⟩; (conv => whnf); try simp only [gO, gWe, ne_eq, Nat.reduceEqDiff, not_false_eq_true, true_or, or_true, true_and]) | (refine ⟨fun hb => ?_, ?_⟩ <;> first | (exfalso; omega; done) | exact absurd True.intro hb | ((conv => whnf); try simp only [gO, gWe, ne_eq, Nat.reduceEqDiff, not_false_eq_true, true_or, or_true, true_and])) | fail)
          exact f
        · rw [if_neg c4] at k1 k0
          have F54 : gW ν₄ 36 5 (pE3 hr n p).1 36 5 = (pE3 hr n p).1 := gWe _ _ _ _
          (conv => whnf); try simp only [gO, gWe, ne_eq, Nat.reduceEqDiff, not_false_eq_true, true_or, or_true, true_and]
          repeat' (first | exact True.intro | (refine ⟨fun hb => ?_, fun hb => ?_⟩ <;> first | (exfalso; omega; done) | exact absurd True.intro hb | ((conv => whnf); try simp only [gO, gWe, ne_eq, Nat.reduceEqDiff, not_false_eq_true, true_or, or_true, true_and])) | (refine ⟨by omega, ?_⟩; (conv => whnf); try simp only [gO, gWe, ne_eq, Nat.reduceEqDiff, not_false_eq_true, true_or, or_true, true_and]) | (refine ⟨fun hb => ?_, ?_⟩ <;> first | (exfalso; omega; done) | exact absurd True.intro hb | ((conv => whnf); try simp only [gO, gWe, ne_eq, Nat.reduceEqDiff, not_false_eq_true, true_or, or_true, true_and])) | fail)
          generalize gW ν₄ 36 5 (pE3 hr n p).1 = m₄ at *
          refine t_71 (by omega) (p := (pE3 hr n p).2) T4.1 P4 (by omega) (by omega) (by omega) (fun ν₅ h5 => ?_)
          rw [T4.2, hh0, show pOpt hr 46 (48 - 48) (55 - 48) 0 (pE3 hr n p).2 = pE4 hr n p from rfl] at h5
          rw [T4.2, hh0, show pOpt hr 46 (48 - 48) (55 - 48) 0 (pE3 hr n p).2 = pE4 hr n p from rfl]
          have E5 := (E4.P h5).W (j := 7) (v := (pE4 hr n p).1) (by decide) (by decide)
          have T5 := hT_c E5.2.1 (E5.1 37 (by decide)) hT
          have P5 : gW ν₅ 36 7 (pE4 hr n p).1 36 2 = (pE4 hr n p).2 := by rw [gWn _ _ _ (by decide)]; exact h5.2.1
          have F45 : gW ν₅ 36 7 (pE4 hr n p).1 36 4 = (pE1 hr n p).1 := by rw [gWn _ _ _ (by decide), h5.2.2 4 (by decide)]; exact F44
          have F65 : gW ν₅ 36 7 (pE4 hr n p).1 36 6 = (pE2 hr n p).1 := by rw [gWn _ _ _ (by decide), h5.2.2 6 (by decide)]; exact F64
          have F55 : gW ν₅ 36 7 (pE4 hr n p).1 36 5 = (pE3 hr n p).1 := by rw [gWn _ _ _ (by decide), h5.2.2 5 (by decide)]; exact F54
          by_cases c5 : (pE4 hr n p).1 < 0
          · have f := k0 (fun hh => by omega) _ E5 (by rw [if_pos c5]; exact P5)
            clear k1 k0 T1 T2 T3 T4 T5 bb
            (conv => whnf); try simp only [gO, gWe, ne_eq, Nat.reduceEqDiff, not_false_eq_true, true_or, or_true, true_and]
            repeat' (first | exact True.intro | (refine ⟨fun hb => ?_, fun hb => ?_⟩ <;> first | (exfalso; omega; done) | exact absurd True.intro hb | ((conv => whnf); try simp only [gO, gWe, ne_eq, Nat.reduceEqDiff, not_false_eq_true, true_or, or_true, true_and])) | (refine ⟨by omega, ?_⟩; (conv => whnf); try simp only [gO, gWe, ne_eq, Nat.reduceEqDiff, not_false_eq_true, true_or, or_true, true_and]) | (refine ⟨fun hb => ?_, ?_⟩ <;> first | (exfalso; omega; done) | exact absurd True.intro hb | ((conv => whnf); try simp only [gO, gWe, ne_eq, Nat.reduceEqDiff, not_false_eq_true, true_or, or_true, true_and])) | fail)
            exact f
          · rw [if_neg c5] at k1 k0
            have F75 : gW ν₅ 36 7 (pE4 hr n p).1 36 7 = (pE4 hr n p).1 := gWe _ _ _ _
            (conv => whnf); try simp only [gO, gWe, ne_eq, Nat.reduceEqDiff, not_false_eq_true, true_or, or_true, true_and]
            repeat' (first | exact True.intro | (refine ⟨fun hb => ?_, fun hb => ?_⟩ <;> first | (exfalso; omega; done) | exact absurd True.intro hb | ((conv => whnf); try simp only [gO, gWe, ne_eq, Nat.reduceEqDiff, not_false_eq_true, true_or, or_true, true_and])) | (refine ⟨by omega, ?_⟩; (conv => whnf); try simp only [gO, gWe, ne_eq, Nat.reduceEqDiff, not_false_eq_true, true_or, or_true, true_and]) | (refine ⟨fun hb => ?_, ?_⟩ <;> first | (exfalso; omega; done) | exact absurd True.intro hb | ((conv => whnf); try simp only [gO, gWe, ne_eq, Nat.reduceEqDiff, not_false_eq_true, true_or, or_true, true_and])) | fail)
            generalize gW ν₅ 36 7 (pE4 hr n p).1 = m₅ at *
            refine t_71 (by omega) (p := (pE4 hr n p).2) T5.1 P5 (by omega) (by omega) (by omega) (fun ν₆ h6 => ?_)
            rw [T5.2, hh0, show pOpt hr 61 (49 - 48) (51 - 48) 1 (pE4 hr n p).2 = pE5 hr n p from rfl] at h6
            rw [T5.2, hh0, show pOpt hr 61 (49 - 48) (51 - 48) 1 (pE4 hr n p).2 = pE5 hr n p from rfl]
            have E6 := (E5.P h6).W (j := 8) (v := (pE5 hr n p).1) (by decide) (by decide)
            have T6 := hT_c E6.2.1 (E6.1 37 (by decide)) hT
            have P6 : gW ν₆ 36 8 (pE5 hr n p).1 36 2 = (pE5 hr n p).2 := by rw [gWn _ _ _ (by decide)]; exact h6.2.1
            have F46 : gW ν₆ 36 8 (pE5 hr n p).1 36 4 = (pE1 hr n p).1 := by rw [gWn _ _ _ (by decide), h6.2.2 4 (by decide)]; exact F45
            have F66 : gW ν₆ 36 8 (pE5 hr n p).1 36 6 = (pE2 hr n p).1 := by rw [gWn _ _ _ (by decide), h6.2.2 6 (by decide)]; exact F65
            have F56 : gW ν₆ 36 8 (pE5 hr n p).1 36 5 = (pE3 hr n p).1 := by rw [gWn _ _ _ (by decide), h6.2.2 5 (by decide)]; exact F55
            have F76 : gW ν₆ 36 8 (pE5 hr n p).1 36 7 = (pE4 hr n p).1 := by rw [gWn _ _ _ (by decide), h6.2.2 7 (by decide)]; exact F75
            by_cases c6 : (pE5 hr n p).1 < 0
            · have f := k0 (fun hh => by omega) _ E6 (by rw [if_pos c6]; exact P6)
              clear k1 k0 T1 T2 T3 T4 T5 T6 bb
              (conv => whnf); try simp only [gO, gWe, ne_eq, Nat.reduceEqDiff, not_false_eq_true, true_or, or_true, true_and]
              repeat' (first | exact True.intro | (refine ⟨fun hb => ?_, fun hb => ?_⟩ <;> first | (exfalso; omega; done) | exact absurd True.intro hb | ((conv => whnf); try simp only [gO, gWe, ne_eq, Nat.reduceEqDiff, not_false_eq_true, true_or, or_true, true_and])) | (refine ⟨by omega, ?_⟩; (conv => whnf); try simp only [gO, gWe, ne_eq, Nat.reduceEqDiff, not_false_eq_true, true_or, or_true, true_and]) | (refine ⟨fun hb => ?_, ?_⟩ <;> first | (exfalso; omega; done) | exact absurd True.intro hb | ((conv => whnf); try simp only [gO, gWe, ne_eq, Nat.reduceEqDiff, not_false_eq_true, true_or, or_true, true_and])) | fail)
              exact f
            · rw [if_neg c6] at k1 k0
              have F86 : gW ν₆ 36 8 (pE5 hr n p).1 36 8 = (pE5 hr n p).1 := gWe _ _ _ _
              (conv => whnf); try simp only [gO, gWe, ne_eq, Nat.reduceEqDiff, not_false_eq_true, true_or, or_true, true_and]
              repeat' (first | exact True.intro | (refine ⟨fun hb => ?_, fun hb => ?_⟩ <;> first | (exfalso; omega; done) | exact absurd True.intro hb | ((conv => whnf); try simp only [gO, gWe, ne_eq, Nat.reduceEqDiff, not_false_eq_true, true_or, or_true, true_and])) | (refine ⟨by omega, ?_⟩; (conv => whnf); try simp only [gO, gWe, ne_eq, Nat.reduceEqDiff, not_false_eq_true, true_or, or_true, true_and]) | (refine ⟨fun hb => ?_, ?_⟩ <;> first | (exfalso; omega; done) | exact absurd True.intro hb | ((conv => whnf); try simp only [gO, gWe, ne_eq, Nat.reduceEqDiff, not_false_eq_true, true_or, or_true, true_and])) | fail)
              generalize gW ν₆ 36 8 (pE5 hr n p).1 = m₆ at *
              refine t_73 (by omega) (p := (pE5 hr n p).2) T6.1 P6 (by omega) (by omega) (fun c7 => ?_) (fun c7 => ?_)
              · rw [T6.2, hh0] at c7
                rw [if_neg (not_not_intro c7)] at k1
                have f := k1 ⟨by omega, by omega, c3, by omega, by omega, by omega, c7⟩ _ (E6.W (j := 2) (v := (pE5 hr n p).2 + 1) (by decide) (by decide)) (gWe _ _ _ _) ⟨by rw [gWn _ _ _ (by decide)]; exact F46, by rw [gWn _ _ _ (by decide)]; exact F56, by rw [gWn _ _ _ (by decide)]; exact F66, by rw [gWn _ _ _ (by decide)]; exact F76, by rw [gWn _ _ _ (by decide)]; exact F86⟩
                clear k1 k0 T1 T2 T3 T4 T5 T6 bb
                (conv => whnf); try simp only [gO, gWe, ne_eq, Nat.reduceEqDiff, not_false_eq_true, true_or, or_true, true_and]
                repeat' (first | exact True.intro | (refine ⟨fun hb => ?_, fun hb => ?_⟩ <;> first | (exfalso; omega; done) | exact absurd True.intro hb | ((conv => whnf); try simp only [gO, gWe, ne_eq, Nat.reduceEqDiff, not_false_eq_true, true_or, or_true, true_and])) | (refine ⟨by omega, ?_⟩; (conv => whnf); try simp only [gO, gWe, ne_eq, Nat.reduceEqDiff, not_false_eq_true, true_or, or_true, true_and]) | (refine ⟨fun hb => ?_, ?_⟩ <;> first | (exfalso; omega; done) | exact absurd True.intro hb | ((conv => whnf); try simp only [gO, gWe, ne_eq, Nat.reduceEqDiff, not_false_eq_true, true_or, or_true, true_and])) | fail)
                exact f
              · rw [T6.2, hh0] at c7
                rw [if_pos c7] at k0
                have f := k0 (fun hh => c7 hh.2.2.2.2.2.2) _ E6 P6
                clear k1 k0 T1 T2 T3 T4 T5 T6 bb
                (conv => whnf); try simp only [gO, gWe, ne_eq, Nat.reduceEqDiff, not_false_eq_true, true_or, or_true, true_and]
                repeat' (first | exact True.intro | (refine ⟨fun hb => ?_, fun hb => ?_⟩ <;> first | (exfalso; omega; done) | exact absurd True.intro hb | ((conv => whnf); try simp only [gO, gWe, ne_eq, Nat.reduceEqDiff, not_false_eq_true, true_or, or_true, true_and])) | (refine ⟨by omega, ?_⟩; (conv => whnf); try simp only [gO, gWe, ne_eq, Nat.reduceEqDiff, not_false_eq_true, true_or, or_true, true_and]) | (refine ⟨fun hb => ?_, ?_⟩ <;> first | (exfalso; omega; done) | exact absurd True.intro hb | ((conv => whnf); try simp only [gO, gWe, ne_eq, Nat.reduceEqDiff, not_false_eq_true, true_or, or_true, true_and])) | fail)
                exact f
      · rw [T2.2, hh0] at c3
        rw [if_pos c3] at k0
        have f := k0 (fun hh => c3 hh.2.2.1) _ E2 P2
        clear k1 k0 T1 T2 bb
        (conv => whnf); try simp only [gO, gWe, ne_eq, Nat.reduceEqDiff, not_false_eq_true, true_or, or_true, true_and]
        repeat' (first | exact True.intro | (refine ⟨fun hb => ?_, fun hb => ?_⟩ <;> first | (exfalso; omega; done) | exact absurd True.intro hb | ((conv => whnf); try simp only [gO, gWe, ne_eq, Nat.reduceEqDiff, not_false_eq_true, true_or, or_true, true_and])) | (refine ⟨by omega, ?_⟩; (conv => whnf); try simp only [gO, gWe, ne_eq, Nat.reduceEqDiff, not_false_eq_true, true_or, or_true, true_and]) | (refine ⟨fun hb => ?_, ?_⟩ <;> first | (exfalso; omega; done) | exact absurd True.intro hb | ((conv => whnf); try simp only [gO, gWe, ne_eq, Nat.reduceEqDiff, not_false_eq_true, true_or, or_true, true_and])) | fail)
        exact f
