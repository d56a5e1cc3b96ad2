/-! the case align -/
theorem alK_c {μ ν : MU} (h : hSt μ ν) : alK ν = alK μ := by
  funext sq l y n
  induction n with
  | zero => rfl
  | succ n ih => rw [alK_s, alK_s, ih, dsr_c h, xWd_c h, h 23 (by decide) (by decide)]
theorem alY_c {μ ν : MU} (h : hSt μ ν) : alY ν = alY μ := by
  funext sq l n
  induction n with
  | zero => rfl
  | succ n ih => unfold alY; rw [ih, alK_c h, h 23 (by decide) (by decide)]
def hLf (ρ τ : MU) (sq l : Int → Int) : Prop := ∀ k : Int, 0 ≤ k → k < (ρ 19 2) → τ 62 (229 + k) = l (sq k)
theorem t_202j {d : Nat} (hd : 8 ≤ d) {ρ τ : MU} {Q : GQ} {sq pl l : Int → Int} {y j : Int} {x3 x4 : GV} (hK : iK ρ sq pl) (hX : hLb ρ l) (y0 : 1 ≤ y) (y1 : y < (ρ 9 1)) (j0 : 0 ≤ j) (j1 : j < (ρ 23) (y + 1) - (ρ 23) y) (hτ : gFr [62, 78] ρ τ) (hsl : hSl ρ τ) (hl : hLf ρ τ sq (alK ρ sq l y j.toNat))
    (nx : ∀ (ω : MU) (x3 x4 : Int), gFr [62, 78] ρ ω → hSl ρ ω → hLf ρ ω sq (alK ρ sq l y (j + 1).toNat) → gG g_T g_F (gCall g_T g_F d) 0 (fun _ => 0) (g_T 202) Q 38 [gR 61, gI y, gI ((ρ 23) (y + 1) - 1 - j - 1), gI x3, gI x4] [] g_SH ω 0 0) : gG g_T g_F (gCall g_T g_F d) 0 (fun _ => 0) (g_T 202) Q 38 [gR 61, gI y, gI ((ρ 23) (y + 1) - 1 - j), x3, x4] [] g_SH τ 0 0 := by
  have hG := hK.1.1
  have hL := hK.1.2.1
  have hN := hK.2.1
  have hO := hK.2.2.2.1
  have V := hN.1
  have G := hG.1
  have L := hL.2.2.2.1
  have st := (iN_st hG hL hN).1 y (by omega) y1
  have sτ : hSt ρ τ := hτ.st (by decide)
  have hKτ : iK τ sq pl := hsl.k hτ (by decide) (by decide) (by decide) hK
  have f23 : (τ 23) = (ρ 23) := sτ 23 (by decide) (by decide)
  have o := (hO.1 y (by omega) y1 ((ρ 23) (y + 1) - 1 - j) (by omega) (by omega)).1
  have kj := alK_b hG hL hN hO hX (show 0 ≤ y by omega) y1 j.toNat (by omega)
  have dj := dsr_b (y := y) hG hL hN kj o.1 o.2
  have aj := kj _ o.1 o.2
  have wj := xWd_b hG o.1
  have st1 : alK ρ sq l y (j + 1).toNat = gUp (alK ρ sq l y j.toNat) (sq ((ρ 23) (y + 1) - 1 - j)) (max (alK ρ sq l y j.toNat (sq ((ρ 23) (y + 1) - 1 - j))) (min (dsr ρ (alK ρ sq l y j.toNat) (sq ((ρ 23) (y + 1) - 1 - j)) y) ((if j = 0 then 1073741824 else alK ρ sq l y j.toNat (sq ((ρ 23) (y + 1) - 1 - j + 1)) - 1) - xWd ρ (sq ((ρ 23) (y + 1) - 1 - j))))) := by
    rw [show (j + 1).toNat = j.toNat + 1 by omega, alK_s, show ((j.toNat : Nat) : Int) = j by omega]
    by_cases c : j = 0
    · rw [if_pos c, if_pos (by omega)]
    · rw [if_neg c, if_neg (by omega)]
  have nx2 : ∀ (ω : MU) (w x3 x4 : Int), gFr [78] τ ω → w = max (alK ρ sq l y j.toNat (sq ((ρ 23) (y + 1) - 1 - j))) (min (dsr ρ (alK ρ sq l y j.toNat) (sq ((ρ 23) (y + 1) - 1 - j)) y) ((if j = 0 then 1073741824 else alK ρ sq l y j.toNat (sq ((ρ 23) (y + 1) - 1 - j + 1)) - 1) - xWd ρ (sq ((ρ 23) (y + 1) - 1 - j)))) → gG g_T g_F (gCall g_T g_F d) 0 (fun _ => 0) (g_T 202) Q 38 [gR 61, gI y, gI ((ρ 23) (y + 1) - 1 - j - 1), gI x3, gI x4] [] g_SH (gW ω 62 (229 + ((ρ 23) (y + 1) - 1 - j)) w) 0 0 := by
    intro ω w x3 x4 hω hw
    have e62 : ω 62 = τ 62 := hω 62 (by decide)
    refine nx _ x3 x4 ((hτ.tr (hω.mo (by decide))).W (by decide)) (fun k hk => by rw [gWn _ _ _ (by omega), e62]; exact hsl k hk) (fun k k0 k1 => ?_)
    rw [st1, ← hw]
    by_cases c : k = (ρ 23) (y + 1) - 1 - j
    · rw [c, gWe, gUp_e]
    · rw [gWn _ _ _ (by omega), e62, gUp_n (fun hh => c (iO_inj hG hL hN hO k0 k1 (by omega) (by omega) hh))]
      exact hl k k0 k1
  clear nx st1
  have q := hKτ.2.2.2.2 ((ρ 23) (y + 1) - 1 - j) (by omega) (by rw [sτ 19 (by decide) (by decide)]; omega)
  have la := hl ((ρ 23) (y + 1) - 1 - j) (by omega) (by omega)
  have lb : j ≠ 0 → τ 62 (229 + ((ρ 23) (y + 1) - 1 - j) + 1) = alK ρ sq l y j.toNat (sq ((ρ 23) (y + 1) - 1 - j + 1)) := fun hj => by
    rw [Int.add_assoc]
    exact hl _ (by omega) (by omega)
  have lim : j ≠ 0 → 0 ≤ alK ρ sq l y j.toNat (sq ((ρ 23) (y + 1) - 1 - j + 1)) ∧ alK ρ sq l y j.toNat (sq ((ρ 23) (y + 1) - 1 - j + 1)) ≤ 1000 := fun hj => by
    have o2 := (hO.1 y (by omega) y1 ((ρ 23) (y + 1) - 1 - j + 1) (by omega) (by omega)).1
    exact kj _ o2.1 o2.2
  have c200 : ∀ (Q' : GQ), ((dF ρ (alK ρ sq l y j.toNat) (sq ((ρ 23) (y + 1) - 1 - j)) y (ρ 1 1).toNat).1 = 0 → ∀ ω : MU, gFr [78] τ ω → Q' (some (gI (-1))) g_SH ω) → (¬ (dF ρ (alK ρ sq l y j.toNat) (sq ((ρ 23) (y + 1) - 1 - j)) y (ρ 1 1).toNat).1 = 0 → ∀ ω : MU, gFr [78] τ ω → Q' (some (gI (dsr ρ (alK ρ sq l y j.toNat) (sq ((ρ 23) (y + 1) - 1 - j)) y))) g_SH ω) → gCall g_T g_F d 200 [gR 61, gI ((τ 20) (sq ((ρ 23) (y + 1) - 1 - j))), gI y] g_SH τ Q' := fun Q' k0 k1 => by
    have e : dF τ = dF ρ := dF_c sτ
    have e1 : (τ 1 1) = (ρ 1 1) := by rw [sτ 1 (by decide) (by decide)]
    refine t_200 (by omega) (l := alK ρ sq l y j.toNat) hKτ (fun k k0 k1 => hl k k0 (by rw [sτ 19 (by decide) (by decide)] at k1; exact k1)) (fun v v0 v1 => kj v v0 (by rw [sτ 19 (by decide) (by decide)] at v1; exact v1)) o.1 (by rw [sτ 19 (by decide) (by decide)]; exact o.2) (by omega) (fun c ω hω => k0 (by rw [← e, ← e1]; exact c) ω hω) (fun c ω hω => ?_)
    have c' : ¬ (dF ρ (alK ρ sq l y j.toNat) (sq ((ρ 23) (y + 1) - 1 - j)) y (ρ 1 1).toNat).1 = 0 := by rw [← e, ← e1]; exact c
    have f := k1 c' ω hω
    unfold dsr at f
    rw [if_neg c', ← e, ← e1] at f
    exact f
  have d0 : (dF ρ (alK ρ sq l y j.toNat) (sq ((ρ 23) (y + 1) - 1 - j)) y (ρ 1 1).toNat).1 = 0 → dsr ρ (alK ρ sq l y j.toNat) (sq ((ρ 23) (y + 1) - 1 - j)) y = alK ρ sq l y j.toNat (sq ((ρ 23) (y + 1) - 1 - j)) := fun c => if_pos c
  have sy : (τ 23) y = (ρ 23) y := by rw [f23]
  have sy1 : (τ 23) (y + 1) = (ρ 23) (y + 1) := by rw [f23]
  have s9 : (τ 9 1) = (ρ 9 1) := by rw [sτ 9 (by decide) (by decide)]
  have wde : xWd τ (sq ((ρ 23) (y + 1) - 1 - j)) = xWd ρ (sq ((ρ 23) (y + 1) - 1 - j)) := by rw [xWd_c sτ]
  have o19 : sq ((ρ 23) (y + 1) - 1 - j) < (τ 19 2) := by rw [sτ 19 (by decide) (by decide)]; exact o.2
  have hcase : ∀ (to : Int) (ω : MU), gFr [78] τ ω → (to = -1 ∧ dsr ρ (alK ρ sq l y j.toNat) (sq ((ρ 23) (y + 1) - 1 - j)) y = alK ρ sq l y j.toNat (sq ((ρ 23) (y + 1) - 1 - j)) ∨ to = dsr ρ (alK ρ sq l y j.toNat) (sq ((ρ 23) (y + 1) - 1 - j)) y) → ω 62 = τ 62 := fun to ω hω _ => hω 62 (by decide)
  clear hl kj hcase
  generalize alK ρ sq l y j.toNat (sq ((ρ 23) (y + 1) - 1 - j)) = a at *
  generalize dsr ρ (alK ρ sq l y j.toNat) (sq ((ρ 23) (y + 1) - 1 - j)) y = D at *
  generalize alK ρ sq l y j.toNat (sq ((ρ 23) (y + 1) - 1 - j + 1)) = b at *
  by_cases cj : j = 0
  · rw [if_pos cj] at nx2
    clear lb lim
    refine gB_gG [38] 300 ?_
    (conv => whnf); try simp only [gO, gWe, ne_eq, Nat.reduceEqDiff, not_false_eq_true, true_or, or_true, true_and]
    refine t_160 (by omega) hKτ.1.2.1 hKτ.2.2.1 (by omega) (by omega) ?_
    rw [sy]
    (conv => whnf); try simp only [gO, gWe, ne_eq, Nat.reduceEqDiff, not_false_eq_true, true_or, or_true, true_and]
    repeat' (first | exact True.intro | (refine ⟨fun hb => ?_, fun hb => ?_⟩ <;> first | (exfalso; omega; done) | exact absurd True.intro hb | ((conv => whnf); try simp only [gO, gWe, ne_eq, Nat.reduceEqDiff, not_false_eq_true, true_or, or_true, true_and])) | (refine ⟨by omega, ?_⟩; (conv => whnf); try simp only [gO, gWe, ne_eq, Nat.reduceEqDiff, not_false_eq_true, true_or, or_true, true_and]) | (refine ⟨fun hb => ?_, ?_⟩ <;> first | (exfalso; omega; done) | exact absurd True.intro hb | ((conv => whnf); try simp only [gO, gWe, ne_eq, Nat.reduceEqDiff, not_false_eq_true, true_or, or_true, true_and])) | fail)
    rw [q]
    refine c200 _ (fun c0 ω hω => ?_) (fun c0 ω hω => ?_)
    · have dd := d0 c0
      have sω := hω.st (l := [78]) (by decide)
      have e62 : ω 62 = τ 62 := hω 62 (by decide)
      have n2 := fun w x3 x4 => nx2 ω w x3 x4 hω
      have laω : ω 62 (229 + ((ρ 23) (y + 1) - 1 - j)) = a := by rw [e62]; exact la
      clear c200 d0 nx2 q
      (conv => whnf); try simp only [gO, gWe, ne_eq, Nat.reduceEqDiff, not_false_eq_true, true_or, or_true, true_and]
      repeat' (first | exact True.intro | (refine ⟨fun hb => ?_, fun hb => ?_⟩ <;> first | (exfalso; omega; done) | exact absurd True.intro hb | ((conv => whnf); try simp only [gO, gWe, ne_eq, Nat.reduceEqDiff, not_false_eq_true, true_or, or_true, true_and])) | (refine ⟨by omega, ?_⟩; (conv => whnf); try simp only [gO, gWe, ne_eq, Nat.reduceEqDiff, not_false_eq_true, true_or, or_true, true_and]) | (refine ⟨fun hb => ?_, ?_⟩ <;> first | (exfalso; omega; done) | exact absurd True.intro hb | ((conv => whnf); try simp only [gO, gWe, ne_eq, Nat.reduceEqDiff, not_false_eq_true, true_or, or_true, true_and])) | fail)
      refine t_160 (by omega) (iL_c sω hKτ.1.2.1) (iDs_c sω (hω.sm (by decide) (by decide) (by decide)) hKτ.1.2.1 hKτ.2.2.1) (by omega) (by rw [sω 9 (by decide) (by decide)]; omega) ?_
      rw [sω 23 (by decide) (by decide), sy1]
      (conv => whnf); try simp only [gO, gWe, ne_eq, Nat.reduceEqDiff, not_false_eq_true, true_or, or_true, true_and]
      repeat' (first | exact True.intro | (refine ⟨fun hb => ?_, fun hb => ?_⟩ <;> first | (exfalso; omega; done) | exact absurd True.intro hb | ((conv => whnf); try simp only [gO, gWe, ne_eq, Nat.reduceEqDiff, not_false_eq_true, true_or, or_true, true_and])) | (refine ⟨by omega, ?_⟩; (conv => whnf); try simp only [gO, gWe, ne_eq, Nat.reduceEqDiff, not_false_eq_true, true_or, or_true, true_and]) | (refine ⟨fun hb => ?_, ?_⟩ <;> first | (exfalso; omega; done) | exact absurd True.intro hb | ((conv => whnf); try simp only [gO, gWe, ne_eq, Nat.reduceEqDiff, not_false_eq_true, true_or, or_true, true_and])) | fail)
      all_goals exact n2 _ _ _ (by omega)
    · have sω := hω.st (l := [78]) (by decide)
      have e62 : ω 62 = τ 62 := hω 62 (by decide)
      have n2 := fun w x3 x4 => nx2 ω w x3 x4 hω
      have laω : ω 62 (229 + ((ρ 23) (y + 1) - 1 - j)) = a := by rw [e62]; exact la
      clear c200 d0 nx2 q
      (conv => whnf); try simp only [gO, gWe, ne_eq, Nat.reduceEqDiff, not_false_eq_true, true_or, or_true, true_and]
      repeat' (first | exact True.intro | (refine ⟨fun hb => ?_, fun hb => ?_⟩ <;> first | (exfalso; omega; done) | exact absurd True.intro hb | ((conv => whnf); try simp only [gO, gWe, ne_eq, Nat.reduceEqDiff, not_false_eq_true, true_or, or_true, true_and])) | (refine ⟨by omega, ?_⟩; (conv => whnf); try simp only [gO, gWe, ne_eq, Nat.reduceEqDiff, not_false_eq_true, true_or, or_true, true_and]) | (refine ⟨fun hb => ?_, ?_⟩ <;> first | (exfalso; omega; done) | exact absurd True.intro hb | ((conv => whnf); try simp only [gO, gWe, ne_eq, Nat.reduceEqDiff, not_false_eq_true, true_or, or_true, true_and])) | fail)
      refine t_160 (by omega) (iL_c sω hKτ.1.2.1) (iDs_c sω (hω.sm (by decide) (by decide) (by decide)) hKτ.1.2.1 hKτ.2.2.1) (by omega) (by rw [sω 9 (by decide) (by decide)]; omega) ?_
      rw [sω 23 (by decide) (by decide), sy1]
      (conv => whnf); try simp only [gO, gWe, ne_eq, Nat.reduceEqDiff, not_false_eq_true, true_or, or_true, true_and]
      repeat' (first | exact True.intro | (refine ⟨fun hb => ?_, fun hb => ?_⟩ <;> first | (exfalso; omega; done) | exact absurd True.intro hb | ((conv => whnf); try simp only [gO, gWe, ne_eq, Nat.reduceEqDiff, not_false_eq_true, true_or, or_true, true_and])) | (refine ⟨by omega, ?_⟩; (conv => whnf); try simp only [gO, gWe, ne_eq, Nat.reduceEqDiff, not_false_eq_true, true_or, or_true, true_and]) | (refine ⟨fun hb => ?_, ?_⟩ <;> first | (exfalso; omega; done) | exact absurd True.intro hb | ((conv => whnf); try simp only [gO, gWe, ne_eq, Nat.reduceEqDiff, not_false_eq_true, true_or, or_true, true_and])) | fail)
      all_goals exact n2 _ _ _ (by omega)
  · rw [if_neg cj] at nx2
    have lb' := lb cj
    have lim' := lim cj
    clear lb lim
    refine gB_gG [38] 300 ?_
    (conv => whnf); try simp only [gO, gWe, ne_eq, Nat.reduceEqDiff, not_false_eq_true, true_or, or_true, true_and]
    refine t_160 (by omega) hKτ.1.2.1 hKτ.2.2.1 (by omega) (by omega) ?_
    rw [sy]
    (conv => whnf); try simp only [gO, gWe, ne_eq, Nat.reduceEqDiff, not_false_eq_true, true_or, or_true, true_and]
    repeat' (first | exact True.intro | (refine ⟨fun hb => ?_, fun hb => ?_⟩ <;> first | (exfalso; omega; done) | exact absurd True.intro hb | ((conv => whnf); try simp only [gO, gWe, ne_eq, Nat.reduceEqDiff, not_false_eq_true, true_or, or_true, true_and])) | (refine ⟨by omega, ?_⟩; (conv => whnf); try simp only [gO, gWe, ne_eq, Nat.reduceEqDiff, not_false_eq_true, true_or, or_true, true_and]) | (refine ⟨fun hb => ?_, ?_⟩ <;> first | (exfalso; omega; done) | exact absurd True.intro hb | ((conv => whnf); try simp only [gO, gWe, ne_eq, Nat.reduceEqDiff, not_false_eq_true, true_or, or_true, true_and])) | fail)
    rw [q]
    refine c200 _ (fun c0 ω hω => ?_) (fun c0 ω hω => ?_)
    · have dd := d0 c0
      have sω := hω.st (l := [78]) (by decide)
      have e62 : ω 62 = τ 62 := hω 62 (by decide)
      have n2 := fun w x3 x4 => nx2 ω w x3 x4 hω
      have laω : ω 62 (229 + ((ρ 23) (y + 1) - 1 - j)) = a := by rw [e62]; exact la
      have lbω : ω 62 (229 + ((ρ 23) (y + 1) - 1 - j) + 1) = b := by rw [e62]; exact lb'
      have qω : ω 62 (169 + ((ρ 23) (y + 1) - 1 - j)) = ω 20 (sq ((ρ 23) (y + 1) - 1 - j)) := by rw [e62, sω 20 (by decide) (by decide)]; exact q
      have iMω := iM_c sω (hω.sm (by decide) (by decide) (by decide)) hKτ.1
      clear c200 d0 nx2 q
      (conv => whnf); try simp only [gO, gWe, ne_eq, Nat.reduceEqDiff, not_false_eq_true, true_or, or_true, true_and]
      repeat' (first | exact True.intro | (refine ⟨fun hb => ?_, fun hb => ?_⟩ <;> first | (exfalso; omega; done) | exact absurd True.intro hb | ((conv => whnf); try simp only [gO, gWe, ne_eq, Nat.reduceEqDiff, not_false_eq_true, true_or, or_true, true_and])) | (refine ⟨by omega, ?_⟩; (conv => whnf); try simp only [gO, gWe, ne_eq, Nat.reduceEqDiff, not_false_eq_true, true_or, or_true, true_and]) | (refine ⟨fun hb => ?_, ?_⟩ <;> first | (exfalso; omega; done) | exact absurd True.intro hb | ((conv => whnf); try simp only [gO, gWe, ne_eq, Nat.reduceEqDiff, not_false_eq_true, true_or, or_true, true_and])) | fail)
      refine t_160 (by omega) (iL_c sω hKτ.1.2.1) (iDs_c sω (hω.sm (by decide) (by decide) (by decide)) hKτ.1.2.1 hKτ.2.2.1) (by omega) (by rw [sω 9 (by decide) (by decide)]; omega) ?_
      rw [sω 23 (by decide) (by decide), sy1]
      (conv => whnf); try simp only [gO, gWe, ne_eq, Nat.reduceEqDiff, not_false_eq_true, true_or, or_true, true_and]
      repeat' (first | exact True.intro | (refine ⟨fun hb => ?_, fun hb => ?_⟩ <;> first | (exfalso; omega; done) | exact absurd True.intro hb | ((conv => whnf); try simp only [gO, gWe, ne_eq, Nat.reduceEqDiff, not_false_eq_true, true_or, or_true, true_and])) | (refine ⟨by omega, ?_⟩; (conv => whnf); try simp only [gO, gWe, ne_eq, Nat.reduceEqDiff, not_false_eq_true, true_or, or_true, true_and]) | (refine ⟨fun hb => ?_, ?_⟩ <;> first | (exfalso; omega; done) | exact absurd True.intro hb | ((conv => whnf); try simp only [gO, gWe, ne_eq, Nat.reduceEqDiff, not_false_eq_true, true_or, or_true, true_and])) | fail)
      rw [qω]
      refine t_158 (by omega) iMω (iN_c sω hKτ.2.1) o.1 (by rw [sω 19 (by decide) (by decide)]; exact o19) ?_
      rw [xWd_c sω, wde]
      clear qω
      (conv => whnf); try simp only [gO, gWe, ne_eq, Nat.reduceEqDiff, not_false_eq_true, true_or, or_true, true_and]
      repeat' (first | exact True.intro | (refine ⟨fun hb => ?_, fun hb => ?_⟩ <;> first | (exfalso; omega; done) | exact absurd True.intro hb | ((conv => whnf); try simp only [gO, gWe, ne_eq, Nat.reduceEqDiff, not_false_eq_true, true_or, or_true, true_and])) | (refine ⟨by omega, ?_⟩; (conv => whnf); try simp only [gO, gWe, ne_eq, Nat.reduceEqDiff, not_false_eq_true, true_or, or_true, true_and]) | (refine ⟨fun hb => ?_, ?_⟩ <;> first | (exfalso; omega; done) | exact absurd True.intro hb | ((conv => whnf); try simp only [gO, gWe, ne_eq, Nat.reduceEqDiff, not_false_eq_true, true_or, or_true, true_and])) | fail)
      all_goals exact n2 _ _ _ (by omega)
    · have sω := hω.st (l := [78]) (by decide)
      have e62 : ω 62 = τ 62 := hω 62 (by decide)
      have n2 := fun w x3 x4 => nx2 ω w x3 x4 hω
      have laω : ω 62 (229 + ((ρ 23) (y + 1) - 1 - j)) = a := by rw [e62]; exact la
      have lbω : ω 62 (229 + ((ρ 23) (y + 1) - 1 - j) + 1) = b := by rw [e62]; exact lb'
      have qω : ω 62 (169 + ((ρ 23) (y + 1) - 1 - j)) = ω 20 (sq ((ρ 23) (y + 1) - 1 - j)) := by rw [e62, sω 20 (by decide) (by decide)]; exact q
      have iMω := iM_c sω (hω.sm (by decide) (by decide) (by decide)) hKτ.1
      clear c200 d0 nx2 q
      (conv => whnf); try simp only [gO, gWe, ne_eq, Nat.reduceEqDiff, not_false_eq_true, true_or, or_true, true_and]
      repeat' (first | exact True.intro | (refine ⟨fun hb => ?_, fun hb => ?_⟩ <;> first | (exfalso; omega; done) | exact absurd True.intro hb | ((conv => whnf); try simp only [gO, gWe, ne_eq, Nat.reduceEqDiff, not_false_eq_true, true_or, or_true, true_and])) | (refine ⟨by omega, ?_⟩; (conv => whnf); try simp only [gO, gWe, ne_eq, Nat.reduceEqDiff, not_false_eq_true, true_or, or_true, true_and]) | (refine ⟨fun hb => ?_, ?_⟩ <;> first | (exfalso; omega; done) | exact absurd True.intro hb | ((conv => whnf); try simp only [gO, gWe, ne_eq, Nat.reduceEqDiff, not_false_eq_true, true_or, or_true, true_and])) | fail)
      refine t_160 (by omega) (iL_c sω hKτ.1.2.1) (iDs_c sω (hω.sm (by decide) (by decide) (by decide)) hKτ.1.2.1 hKτ.2.2.1) (by omega) (by rw [sω 9 (by decide) (by decide)]; omega) ?_
      rw [sω 23 (by decide) (by decide), sy1]
      (conv => whnf); try simp only [gO, gWe, ne_eq, Nat.reduceEqDiff, not_false_eq_true, true_or, or_true, true_and]
      repeat' (first | exact True.intro | (refine ⟨fun hb => ?_, fun hb => ?_⟩ <;> first | (exfalso; omega; done) | exact absurd True.intro hb | ((conv => whnf); try simp only [gO, gWe, ne_eq, Nat.reduceEqDiff, not_false_eq_true, true_or, or_true, true_and])) | (refine ⟨by omega, ?_⟩; (conv => whnf); try simp only [gO, gWe, ne_eq, Nat.reduceEqDiff, not_false_eq_true, true_or, or_true, true_and]) | (refine ⟨fun hb => ?_, ?_⟩ <;> first | (exfalso; omega; done) | exact absurd True.intro hb | ((conv => whnf); try simp only [gO, gWe, ne_eq, Nat.reduceEqDiff, not_false_eq_true, true_or, or_true, true_and])) | fail)
      rw [qω]
      refine t_158 (by omega) iMω (iN_c sω hKτ.2.1) o.1 (by rw [sω 19 (by decide) (by decide)]; exact o19) ?_
      rw [xWd_c sω, wde]
      clear qω
      (conv => whnf); try simp only [gO, gWe, ne_eq, Nat.reduceEqDiff, not_false_eq_true, true_or, or_true, true_and]
      repeat' (first | exact True.intro | (refine ⟨fun hb => ?_, fun hb => ?_⟩ <;> first | (exfalso; omega; done) | exact absurd True.intro hb | ((conv => whnf); try simp only [gO, gWe, ne_eq, Nat.reduceEqDiff, not_false_eq_true, true_or, or_true, true_and])) | (refine ⟨by omega, ?_⟩; (conv => whnf); try simp only [gO, gWe, ne_eq, Nat.reduceEqDiff, not_false_eq_true, true_or, or_true, true_and]) | (refine ⟨fun hb => ?_, ?_⟩ <;> first | (exfalso; omega; done) | exact absurd True.intro hb | ((conv => whnf); try simp only [gO, gWe, ne_eq, Nat.reduceEqDiff, not_false_eq_true, true_or, or_true, true_and])) | fail)
      all_goals exact n2 _ _ _ (by omega)
