variable {sN : Int} {sX : Int → Int}
/-! every vertex is sifted -/
theorem hBest_x {μ : MU} {s : GO} {v : Int} (hG : iG μ) (hL : iL μ) (hN : iN μ) (hO : iOC μ s) (v0 : 0 ≤ v) (v1 : v < (μ 19 2)) : ∃ b, hBest μ s v b := by
  have key : ∀ p : Nat, ∃ b w, sftI μ s v p b w := by
    intro p
    induction p with
    | zero => exact ⟨_, _, Or.inl ⟨rfl, rfl, fun q q0 q1 => by omega⟩⟩
    | succ p ih =>
      obtain ⟨b, w, h⟩ := ih
      have cb := sftC_b (μ := μ) (s := s) (v := v) hG ((p : Int).toNat)
      by_cases hc : iC μ (sftP μ s v ((p : Int).toNat)).1 ((μ 21) v)
      · by_cases hl : sftC μ s v ((p : Int).toNat) < w
        · exact ⟨_, _, sftI_lt h (by omega) hl hc⟩
        · exact ⟨_, _, sftI_le h (by omega) (by omega) (by omega)⟩
      · exact ⟨_, _, sftI_no h (by omega) hc⟩
  obtain ⟨⟨y0, y1⟩, ⟨a0, a1⟩, ⟨b0, b1, b2⟩, b3⟩ := iO_v hG hL hN hO.1 v0 v1
  obtain ⟨b, w, h⟩ := key ((μ 23) ((μ 21) v + 1) - (μ 23) ((μ 21) v)).toNat
  rw [show (((μ 23) ((μ 21) v + 1) - (μ 23) ((μ 21) v)).toNat : Int) = (μ 23) ((μ 21) v + 1) - (μ 23) ((μ 21) v) by omega] at h
  exact ⟨b, sftI_end hG hL hN hO v0 v1 h⟩
theorem sft_O {μ : MU} {s : GO} {v : Int} (hG : iG μ) (hL : iL μ) (hN : iN μ) (hO : iOC μ s) (v0 : 0 ≤ v) (v1 : v < (μ 19 2)) : iOC μ (sft μ s v) := by
  obtain ⟨b, hb⟩ := hBest_x hG hL hN hO v0 v1
  exact sft_o hG hL hN hO v0 v1 hb
/-- the vertices of a layer, the first n of all; the first layers -/
noncomputable def sfL (μ : MU) (y : Int) (s : GO) : Nat → GO
  | 0 => s
  | n + 1 => if (μ 21) n = y then sft μ (sfL μ y s n) n else sfL μ y s n
noncomputable def sfA (μ : MU) (s : GO) : Nat → GO
  | 0 => s
  | k + 1 => sfL μ k (sfA μ s k) (μ 19 2).toNat
theorem sfL_O {μ : MU} {s : GO} {y : Int} (hG : iG μ) (hL : iL μ) (hN : iN μ) (hO : iOC μ s) : ∀ n : Nat, (n : Int) ≤ (μ 19 2) → iOC μ (sfL μ y s n) := by
  intro n
  induction n with
  | zero => intro _; exact hO
  | succ n ih =>
    intro h
    unfold sfL
    split
    · exact sft_O hG hL hN (ih (by omega)) (by omega) (by omega)
    · exact ih (by omega)
theorem sfA_O {μ : MU} {s : GO} (hG : iG μ) (hL : iL μ) (hN : iN μ) (hO : iOC μ s) : ∀ k : Nat, iOC μ (sfA μ s k) := by
  have V := hN.1
  have G := hG.1
  intro k
  induction k with
  | zero => exact hO
  | succ k ih => exact sfL_O hG hL hN ih _ (by omega)
theorem sfL_c {μ ν : MU} (h : hSt μ ν) : sfL ν = sfL μ := by
  funext y s n
  induction n with
  | zero => rfl
  | succ n ih =>
    unfold sfL
    rw [ih, sft_c h, h 21 (by decide) (by decide)]
theorem sfA_c {μ ν : MU} (h : hSt μ ν) : sfA ν = sfA μ := by
  funext s k
  induction k with
  | zero => rfl
  | succ k ih =>
    unfold sfA
    rw [ih, sfL_c h, h 19 (by decide) (by decide)]
theorem t_63 {D : Nat} (hD : 5 ≤ D) {μ : MU} {Q : GQ} (hH0 : iH μ) (hC : ∀ z : Int, 0 ≤ z → z < (μ 9 1) → iC μ (μ 24) z) (h : ∀ ν : MU, gFr [24, 25, 31, 32] μ ν → ((ν 24), (ν 25)) = sfA μ ((μ 24), (μ 25)) (μ 9 1).toNat → Q none g_SH ν) : gCall g_T g_F sN sX D 63 [gR 19] g_SH μ Q := by
  have hG := hH0.1
  have hL := hH0.2.1
  have hN := hH0.2.2.1
  have L := hL.2.2.2.1
  have V := hN.1
  have G := hG.1
  have hOC : iOC μ ((μ 24), (μ 25)) := ⟨hH0.2.2.2, hC⟩
  obtain ⟨d, rfl⟩ := gD (show 1 ≤ D by omega)
  refine gC 300 [2] rfl ?_
  (conv => whnf); try simp only [gO, gWe, ne_eq, Nat.reduceEqDiff, not_false_eq_true, true_or, or_true, true_and]
  have out : ∀ y : Int, 0 ≤ y → y ≤ (μ 9 1) → ∀ (ν : MU) (x : GV), gFr [24, 25, 31, 32] μ ν → ((ν 24), (ν 25)) = sfA μ ((μ 24), (μ 25)) y.toNat → gG g_T g_F (gCall g_T g_F sN sX d) sN sX (g_T 63) Q 2 [gR 19, gI y, x] [] g_SH ν 0 0 := by
    refine g_up (fun y y0 y1 ih ν x hν hs => ?_) (fun ν x hν hs => ?_)
    · have oA := sfA_O hG hL hN hOC y.toNat
      rw [show (y + 1).toNat = y.toNat + 1 by omega, show sfA μ ((μ 24), (μ 25)) (y.toNat + 1) = sfL μ (y.toNat : Int) (sfA μ ((μ 24), (μ 25)) y.toNat) (μ 19 2).toNat from rfl, show ((y.toNat : Nat) : Int) = y by omega] at ih
      generalize sfA μ ((μ 24), (μ 25)) y.toNat = s at *
      have inn : ∀ v : Int, 0 ≤ v → v ≤ (μ 19 2) → ∀ (ρ : MU), gFr [24, 25, 31, 32] μ ρ → ((ρ 24), (ρ 25)) = sfL μ y s v.toNat → gG g_T g_F (gCall g_T g_F sN sX d) sN sX (g_T 63) Q 15 [gR 19, gI y, gI v] [] g_SH ρ 0 0 := by
        refine g_up (fun v v0 v1 ihv ρ hρ hr => ?_) (fun ρ hρ hr => ?_)
        · have oL := sfL_O (y := y) hG hL hN oA v.toNat (by omega)
          have s1 : hSt μ ρ := hρ.st (by decide)
          have f19 : (ρ 19 2) = (μ 19 2) := by rw [s1 19 (by decide) (by decide)]
          have f21 : (ρ 21) v = (μ 21) v := by rw [s1 21 (by decide) (by decide)]
          have e3 : (ρ 24) = _ := congrArg Prod.fst hr
          have e4 : (ρ 25) = _ := congrArg Prod.snd hr
          rw [show (v + 1).toNat = v.toNat + 1 by omega, show sfL μ y s (v.toNat + 1) = (if (μ 21) (v.toNat : Int) = y then sft μ (sfL μ y s v.toNat) (v.toNat : Int) else sfL μ y s v.toNat) from rfl, show ((v.toNat : Nat) : Int) = v by omega, ← hr] at ihv
          have hI : iH ρ := ⟨iG_c s1 hG, iL_c s1 hL, iN_c s1 hN, iO_c s1 (by rw [e3, e4]; exact oL.1)⟩
          have hCρ : ∀ z : Int, 0 ≤ z → z < (ρ 9 1) → iC ρ (ρ 24) z := fun z z0 z1 => by
            rw [s1 9 (by decide) (by decide)] at z1
            rw [iC_e s1, e3]
            exact oL.2 z z0 z1
          clear hr e3 e4
          by_cases c : (μ 21) v = y
          · rw [if_pos c] at ihv
            refine gB_gG [15] 300 ?_
            (conv => whnf); try simp only [gO, gWe, ne_eq, Nat.reduceEqDiff, not_false_eq_true, true_or, or_true, true_and]
            repeat' (first | exact True.intro | (refine ⟨fun hb => ?_, fun hb => ?_⟩ <;> first | (exfalso; omega; done) | exact absurd True.intro hb | ((conv => whnf); try simp only [gO, gWe, ne_eq, Nat.reduceEqDiff, not_false_eq_true, true_or, or_true, true_and])) | (refine ⟨by omega, ?_⟩; (conv => whnf); try simp only [gO, gWe, ne_eq, Nat.reduceEqDiff, not_false_eq_true, true_or, or_true, true_and]) | (refine ⟨fun hb => ?_, ?_⟩ <;> first | (exfalso; omega; done) | exact absurd True.intro hb | ((conv => whnf); try simp only [gO, gWe, ne_eq, Nat.reduceEqDiff, not_false_eq_true, true_or, or_true, true_and])) | fail)
            refine t_62 (by omega) hI hCρ v0 (by omega) (fun τ hτ _ hs2 => ?_)
            rw [sft_c s1] at hs2
            (conv => whnf); try simp only [gO, gWe, ne_eq, Nat.reduceEqDiff, not_false_eq_true, true_or, or_true, true_and]
            repeat' (first | exact True.intro | (refine ⟨fun hb => ?_, fun hb => ?_⟩ <;> first | (exfalso; omega; done) | exact absurd True.intro hb | ((conv => whnf); try simp only [gO, gWe, ne_eq, Nat.reduceEqDiff, not_false_eq_true, true_or, or_true, true_and])) | (refine ⟨by omega, ?_⟩; (conv => whnf); try simp only [gO, gWe, ne_eq, Nat.reduceEqDiff, not_false_eq_true, true_or, or_true, true_and]) | (refine ⟨fun hb => ?_, ?_⟩ <;> first | (exfalso; omega; done) | exact absurd True.intro hb | ((conv => whnf); try simp only [gO, gWe, ne_eq, Nat.reduceEqDiff, not_false_eq_true, true_or, or_true, true_and])) | fail)
            exact ihv τ (hρ.tr hτ) hs2
          · rw [if_neg c] at ihv
            refine gB_gG [15] 300 ?_
            (conv => whnf); try simp only [gO, gWe, ne_eq, Nat.reduceEqDiff, not_false_eq_true, true_or, or_true, true_and]
            repeat' (first | exact True.intro | (refine ⟨fun hb => ?_, fun hb => ?_⟩ <;> first | (exfalso; omega; done) | exact absurd True.intro hb | ((conv => whnf); try simp only [gO, gWe, ne_eq, Nat.reduceEqDiff, not_false_eq_true, true_or, or_true, true_and])) | (refine ⟨by omega, ?_⟩; (conv => whnf); try simp only [gO, gWe, ne_eq, Nat.reduceEqDiff, not_false_eq_true, true_or, or_true, true_and]) | (refine ⟨fun hb => ?_, ?_⟩ <;> first | (exfalso; omega; done) | exact absurd True.intro hb | ((conv => whnf); try simp only [gO, gWe, ne_eq, Nat.reduceEqDiff, not_false_eq_true, true_or, or_true, true_and])) | fail)
            exact ihv ρ hρ rfl
        · have s1 : hSt μ ρ := hρ.st (by decide)
          have f19 : (ρ 19 2) = (μ 19 2) := by rw [s1 19 (by decide) (by decide)]
          refine gB_gG [2] 300 ?_
          (conv => whnf); try simp only [gO, gWe, ne_eq, Nat.reduceEqDiff, not_false_eq_true, true_or, or_true, true_and]
          repeat' (first | exact True.intro | (refine ⟨fun hb => ?_, fun hb => ?_⟩ <;> first | (exfalso; omega; done) | exact absurd True.intro hb | ((conv => whnf); try simp only [gO, gWe, ne_eq, Nat.reduceEqDiff, not_false_eq_true, true_or, or_true, true_and])) | (refine ⟨by omega, ?_⟩; (conv => whnf); try simp only [gO, gWe, ne_eq, Nat.reduceEqDiff, not_false_eq_true, true_or, or_true, true_and]) | (refine ⟨fun hb => ?_, ?_⟩ <;> first | (exfalso; omega; done) | exact absurd True.intro hb | ((conv => whnf); try simp only [gO, gWe, ne_eq, Nat.reduceEqDiff, not_false_eq_true, true_or, or_true, true_and])) | fail)
          exact ih ρ _ hρ hr
      have s1 : hSt μ ν := hν.st (by decide)
      have f9 : (ν 9 1) = (μ 9 1) := by rw [s1 9 (by decide) (by decide)]
      refine gB_gG [15] 300 ?_
      (conv => whnf); try simp only [gO, gWe, ne_eq, Nat.reduceEqDiff, not_false_eq_true, true_or, or_true, true_and]
      repeat' (first | exact True.intro | (refine ⟨fun hb => ?_, fun hb => ?_⟩ <;> first | (exfalso; omega; done) | exact absurd True.intro hb | ((conv => whnf); try simp only [gO, gWe, ne_eq, Nat.reduceEqDiff, not_false_eq_true, true_or, or_true, true_and])) | (refine ⟨by omega, ?_⟩; (conv => whnf); try simp only [gO, gWe, ne_eq, Nat.reduceEqDiff, not_false_eq_true, true_or, or_true, true_and]) | (refine ⟨fun hb => ?_, ?_⟩ <;> first | (exfalso; omega; done) | exact absurd True.intro hb | ((conv => whnf); try simp only [gO, gWe, ne_eq, Nat.reduceEqDiff, not_false_eq_true, true_or, or_true, true_and])) | fail)
      exact inn 0 (by omega) (by omega) ν hν hs
    · have s1 : hSt μ ν := hν.st (by decide)
      have f9 : (ν 9 1) = (μ 9 1) := by rw [s1 9 (by decide) (by decide)]
      refine gB_gG [2] 300 ?_
      (conv => whnf); try simp only [gO, gWe, ne_eq, Nat.reduceEqDiff, not_false_eq_true, true_or, or_true, true_and]
      repeat' (first | exact True.intro | (refine ⟨fun hb => ?_, fun hb => ?_⟩ <;> first | (exfalso; omega; done) | exact absurd True.intro hb | ((conv => whnf); try simp only [gO, gWe, ne_eq, Nat.reduceEqDiff, not_false_eq_true, true_or, or_true, true_and])) | (refine ⟨by omega, ?_⟩; (conv => whnf); try simp only [gO, gWe, ne_eq, Nat.reduceEqDiff, not_false_eq_true, true_or, or_true, true_and]) | (refine ⟨fun hb => ?_, ?_⟩ <;> first | (exfalso; omega; done) | exact absurd True.intro hb | ((conv => whnf); try simp only [gO, gWe, ne_eq, Nat.reduceEqDiff, not_false_eq_true, true_or, or_true, true_and])) | fail)
      exact h ν hν hs
  exact out 0 (by omega) (by omega) μ _ gFr.rf rfl
/-- how many of the first vertices lie in a layer -/
def hCn (μ : MU) (y : Int) (n : Nat) : Int := gSum (fun v => if (μ 21) v = y then 1 else 0) n
theorem hCn_m {μ : MU} {y : Int} {n : Nat} : ∀ k : Nat, n ≤ k → hCn μ y n ≤ hCn μ y k := fun k hk => gSum_m (n := k) (fun i _ _ => by split <;> omega) k n hk (Nat.le_refl _)
theorem sfL_gap {μ : MU} {y : Int} {s : GO} {n : Nat} : ∀ k : Nat, (∀ v : Int, (n : Int) ≤ v → v < ((n + k : Nat) : Int) → (μ 21) v ≠ y) → sfL μ y s (n + k) = sfL μ y s n ∧ hCn μ y (n + k) = hCn μ y n := by
  intro k
  induction k with
  | zero => intro _; exact ⟨rfl, rfl⟩
  | succ k ih =>
    intro h
    have i := ih (fun v v0 v1 => h v v0 (by omega))
    have c := h ((n + k : Nat) : Int) (by omega) (by omega)
    refine ⟨?_, ?_⟩
    · rw [← i.1]
      show (if (μ 21) ((n + k : Nat) : Int) = y then sft μ (sfL μ y s (n + k)) ((n + k : Nat) : Int) else sfL μ y s (n + k)) = _
      rw [if_neg c]
    · rw [← i.2]
      show hCn μ y (n + k) + (if (μ 21) ((n + k : Nat) : Int) = y then 1 else 0) = _
      rw [if_neg c, Int.add_zero]
theorem hCn_x {μ : MU} {y : Int} {n : Nat} : ∀ k : Nat, hCn μ y n < hCn μ y (n + k) → ∃ v : Int, (n : Int) ≤ v ∧ v < ((n + k : Nat) : Int) ∧ (μ 21) v = y := by
  intro k h
  by_cases c : ∃ v : Int, (n : Int) ≤ v ∧ v < ((n + k : Nat) : Int) ∧ (μ 21) v = y
  · exact c
  · have := (sfL_gap (μ := μ) (y := y) (s := (fun _ => 0, fun _ => 0)) (n := n) k (fun v v0 v1 hv => c ⟨v, v0, v1, hv⟩)).2
    omega
/-- the least name behind the last one -/
def hNx (μ : MU) (sq : Int → Int) (s i last next : Int) : Prop := (next = 100000 ∧ ∀ j : Int, s ≤ j → j < i → (μ 20) (sq j) ≤ last) ∨ (last < next ∧ (∃ j : Int, s ≤ j ∧ j < i ∧ next = (μ 20) (sq j)) ∧ ∀ j : Int, s ≤ j → j < i → last < (μ 20) (sq j) → next ≤ (μ 20) (sq j))
theorem iN_nm {μ : MU} (hG : iG μ) (hL : iL μ) (hN : iN μ) {v : Int} (h0 : 0 ≤ v) (h1 : v < (μ 19 2)) : 0 ≤ (μ 20) v ∧ (μ 20) v < 1000 := by
  have G := hG.1
  have L := hL.2.2.2.1
  rcases iN_two hG hL hN h0 h1 with ⟨a1, a2, -⟩ | ⟨a0, e, y, e0, e1, y0, y1, hv, a1, -, y2, y3⟩ <;> omega
