variable {sN : Int} {sX : Int → Int}
/-! the class weighs, sorts and sweeps -/
theorem hClo_c {μ ν : MU} (h : hSt μ ν) : hClo ν = hClo μ := by
  funext sq s e c
  induction c with
  | zero => rfl
  | succ c ih =>
    unfold hClo
    rw [ih, xGr_c h, hPut_c h]
theorem cloS_c {μ ν : MU} (h : hSt μ ν) : cloS ν = cloS μ := by
  funext sq y k
  unfold cloS
  rw [hClo_c h, h 23 (by decide) (by decide)]
theorem clo2_c {μ ν : MU} (h : hSt μ ν) : clo2 ν = clo2 μ := by
  funext y s
  unfold clo2
  rw [cloS_c h, h 23 (by decide) (by decide)]
theorem swp1_c {μ ν : MU} (h : hSt μ ν) : swp1 ν = swp1 μ := by
  funext y f s
  unfold swp1
  rw [clo2_c h, xW_c h, xN_c h, h 23 (by decide) (by decide)]
theorem t_61 {D : Nat} (hD : 1 ≤ D) {μ : MU} {Q : GQ} {v o : Int} (hv : 0 ≤ v ∧ v < 60) (ho : 0 ≤ o ∧ o < 60) (b1 : 0 ≤ (μ 29) v ∧ (μ 29) v ≤ 9600) (b2 : 0 ≤ (μ 29) o ∧ (μ 29) o ≤ 9600) (b3 : 0 ≤ (μ 30) v ∧ (μ 30) v ≤ 20) (b4 : 0 ≤ (μ 30) o ∧ (μ 30) o ≤ 20) (k1 : (μ 29) v * (μ 30) o < (μ 29) o * (μ 30) v → Q (some (gI (1))) g_SH μ) (k0 : ¬ (μ 29) v * (μ 30) o < (μ 29) o * (μ 30) v → Q (some (gI (0))) g_SH μ) : gCall g_T g_F sN sX D 61 [gR 19, gI v, gI o] g_SH μ Q := by
  have m1 := g_mulw b1 b4
  have m2 := g_mulw b2 b3
  obtain ⟨d, rfl⟩ := gD (show 1 ≤ D by omega)
  refine gC 300 [] rfl ?_
  (conv => whnf); try simp only [gO, gWe, ne_eq, Nat.reduceEqDiff, not_false_eq_true, true_or, or_true, true_and]
  repeat' (first | exact True.intro | (refine ⟨fun hb => ?_, fun hb => ?_⟩ <;> first | (exfalso; omega; done) | exact absurd True.intro hb | ((conv => whnf); try simp only [gO, gWe, ne_eq, Nat.reduceEqDiff, not_false_eq_true, true_or, or_true, true_and])) | (refine ⟨by omega, ?_⟩; (conv => whnf); try simp only [gO, gWe, ne_eq, Nat.reduceEqDiff, not_false_eq_true, true_or, or_true, true_and]) | (refine ⟨fun hb => ?_, ?_⟩ <;> first | (exfalso; omega; done) | exact absurd True.intro hb | ((conv => whnf); try simp only [gO, gWe, ne_eq, Nat.reduceEqDiff, not_false_eq_true, true_or, or_true, true_and])) | fail)
  · exact k0 (by omega)
  · exact k1 (by omega)
theorem t_60 {D : Nat} (hD : 3 ≤ D) {μ : MU} {Q : GQ} {y f : Int} (hH0 : iH μ) (y0 : 0 ≤ y) (y1 : y < (μ 9 1)) (hf : f = y - 1 ∨ f = y + 1) (h : ∀ ν : MU, gFr [29, 30] μ ν → (∀ v : Int, 0 ≤ v → v < (μ 19 2) → (μ 21) v = y → (ν 29) v = xW μ (μ 25) y f v ∧ (ν 30) v = xN μ y f v) → Q none g_SH ν) : gCall g_T g_F sN sX D 60 [gR 19, gI y, gI f] g_SH μ Q := by
  have hG := hH0.1
  have hL := hH0.2.1
  have hN := hH0.2.2.1
  have hO := hH0.2.2.2
  have L := hL.2.2.2.1
  have V := hN.1
  have G := hG.1
  have st := (iN_st hG hL hN).1 y y0 y1
  obtain ⟨d, rfl⟩ := gD (show 1 ≤ D by omega)
  refine gC 300 [7] rfl ?_
  (conv => whnf); try simp only [gO, gWe, ne_eq, Nat.reduceEqDiff, not_false_eq_true, true_or, or_true, true_and]
  repeat' (first | exact True.intro | (refine ⟨fun hb => ?_, fun hb => ?_⟩ <;> first | (exfalso; omega; done) | exact absurd True.intro hb | ((conv => whnf); try simp only [gO, gWe, ne_eq, Nat.reduceEqDiff, not_false_eq_true, true_or, or_true, true_and])) | (refine ⟨by omega, ?_⟩; (conv => whnf); try simp only [gO, gWe, ne_eq, Nat.reduceEqDiff, not_false_eq_true, true_or, or_true, true_and]) | (refine ⟨fun hb => ?_, ?_⟩ <;> first | (exfalso; omega; done) | exact absurd True.intro hb | ((conv => whnf); try simp only [gO, gWe, ne_eq, Nat.reduceEqDiff, not_false_eq_true, true_or, or_true, true_and])) | fail)
  -- the third loop
  have l3 : ∀ k : Int, (μ 23) y ≤ k → k ≤ (μ 23) (y + 1) → ∀ (ν : MU) (x : GV), gFr [29, 30] μ ν → (∀ v : Int, 0 ≤ v → v < (μ 19 2) → (μ 21) v = y → ((μ 23) y + (μ 25) v < k → (ν 29) v = xW μ (μ 25) y f v ∧ (ν 30) v = xN μ y f v) ∧ (k ≤ (μ 23) y + (μ 25) v → (ν 29) v = hWs μ (μ 25) y f v (μ 1 1).toNat ∧ (ν 30) v = hWn μ y f v (μ 1 1).toNat)) → gG g_T g_F (gCall g_T g_F sN sX d) sN sX (g_T 60) Q 123 [gR 19, gI y, gI f, gI k, x] [] g_SH ν 0 0 := by
    refine g_up (fun k k0 k1 ih ν x hν h1 => ?_) (fun ν x hν h1 => ?_)
    · have s1 : hSt μ ν := hν.st (by decide)
      have f1 : (ν 23) y = (μ 23) y := by rw [s1 23 (by decide) (by decide)]
      have f2 : (ν 23) (y + 1) = (μ 23) (y + 1) := by rw [s1 23 (by decide) (by decide)]
      have f3 : (ν 24) k = (μ 24) k := by rw [hν 24 (by decide)]
      have a := hO.1 y y0 y1 k k0 k1
      have f4 : (ν 25) ((μ 24) k) = (μ 25) ((μ 24) k) := by rw [hν 25 (by decide)]
      have f5 : (ν 25) ((ν 24) k) = (μ 25) ((μ 24) k) := by rw [f3, f4]
      have b := (h1 ((μ 24) k) a.1.1 a.1.2 a.2.1).2 (by omega)
      have bn := hWn_b (μ := μ) (y := y) (f := f) ((μ 24) k) (μ 1 1).toNat
      have same : ∀ (v : Int), 0 ≤ v → v < (μ 19 2) → (μ 21) v = y → ((μ 23) y + (μ 25) v = k ↔ v = (μ 24) k) := fun v v0 v1 vy => by
        have := (hO.2 v v0 v1).2.2
        rw [vy] at this
        constructor
        · intro e; rw [← e]; exact this.symm
        · intro e; subst e; omega
      refine gB_gG [123] 300 ?_
      (conv => whnf); try simp only [gO, gWe, ne_eq, Nat.reduceEqDiff, not_false_eq_true, true_or, or_true, true_and]
      repeat' (first | exact True.intro | (refine ⟨fun hb => ?_, fun hb => ?_⟩ <;> first | (exfalso; omega; done) | exact absurd True.intro hb | ((conv => whnf); try simp only [gO, gWe, ne_eq, Nat.reduceEqDiff, not_false_eq_true, true_or, or_true, true_and])) | (refine ⟨by omega, ?_⟩; (conv => whnf); try simp only [gO, gWe, ne_eq, Nat.reduceEqDiff, not_false_eq_true, true_or, or_true, true_and]) | (refine ⟨fun hb => ?_, ?_⟩ <;> first | (exfalso; omega; done) | exact absurd True.intro hb | ((conv => whnf); try simp only [gO, gWe, ne_eq, Nat.reduceEqDiff, not_false_eq_true, true_or, or_true, true_and])) | fail)
      · -- parts
        refine ih ν _ hν (fun v v0 v1 vy => ?_)
        have sv := same v v0 v1 vy
        have hv := h1 v v0 v1 vy
        by_cases c : v = (μ 24) k
        · subst c
          refine ⟨fun _ => ?_, fun h => by omega⟩
          have nz : hWn μ y f ((μ 24) k) (μ 1 1).toNat ≠ 0 := by rw [← b.2, ← f3]; exact hb
          unfold xW xN
          rw [if_neg nz, if_neg nz]
          exact b
        · exact ⟨fun h => hv.1 (by omega), fun h => hv.2 (by omega)⟩
      · have z : hWn μ y f ((μ 24) k) (μ 1 1).toNat = 0 := by rw [← b.2, ← f3]; omega
        rw [f3, f4]
        refine ih _ _ ((hν.W (by decide)).W (by decide)) (fun v v0 v1 vy => ?_)
        have sv := same v v0 v1 vy
        have hv := h1 v v0 v1 vy
        by_cases c : v = (μ 24) k
        · subst c
          refine ⟨fun _ => ?_, fun h => by omega⟩
          unfold xW xN
          rw [if_pos z, if_pos z, gO (by decide), gWe, gWe]
          exact ⟨rfl, rfl⟩
        · rw [gO (by decide), gWn _ _ _ c, gWn _ _ _ c, gO (by decide)]
          exact ⟨fun h => hv.1 (by omega), fun h => hv.2 (by omega)⟩
    · have s1 : hSt μ ν := hν.st (by decide)
      have f2 : (ν 23) (y + 1) = (μ 23) (y + 1) := by rw [s1 23 (by decide) (by decide)]
      refine gB_gG [123] 300 ?_
      (conv => whnf); try simp only [gO, gWe, ne_eq, Nat.reduceEqDiff, not_false_eq_true, true_or, or_true, true_and]
      repeat' (first | exact True.intro | (refine ⟨fun hb => ?_, fun hb => ?_⟩ <;> first | (exfalso; omega; done) | exact absurd True.intro hb | ((conv => whnf); try simp only [gO, gWe, ne_eq, Nat.reduceEqDiff, not_false_eq_true, true_or, or_true, true_and])) | (refine ⟨by omega, ?_⟩; (conv => whnf); try simp only [gO, gWe, ne_eq, Nat.reduceEqDiff, not_false_eq_true, true_or, or_true, true_and]) | (refine ⟨fun hb => ?_, ?_⟩ <;> first | (exfalso; omega; done) | exact absurd True.intro hb | ((conv => whnf); try simp only [gO, gWe, ne_eq, Nat.reduceEqDiff, not_false_eq_true, true_or, or_true, true_and])) | fail)
      refine h ν hν (fun v v0 v1 vy => (h1 v v0 v1 vy).1 ?_)
      have := (hO.2 v v0 v1).2.1
      rw [vy] at this
      omega
  -- the second loop
  have l2 : ∀ e : Int, 0 ≤ e → e ≤ (μ 1 1) → ∀ (ν : MU) (x : GV), gFr [29, 30] μ ν → (∀ v : Int, 0 ≤ v → v < (μ 19 2) → (μ 21) v = y → (ν 29) v = hWs μ (μ 25) y f v e.toNat ∧ (ν 30) v = hWn μ y f v e.toNat) → gG g_T g_F (gCall g_T g_F sN sX d) sN sX (g_T 60) Q 51 [gR 19, gI y, gI f, gI e, x] [] g_SH ν 0 0 := by
    refine g_up (fun e e0 e1 ih ν x hν h1 => ?_) (fun ν x hν h1 => ?_)
    · have s1 : hSt μ ν := hν.st (by decide)
      have hI : iH ν := iH_c s1 (hν 24 (by decide)) (hν 25 (by decide)) hH0
      have eq1 : (ν 1 1) = (μ 1 1) := by rw [s1 1 (by decide) (by decide)]
      have ihs : ∀ v, hWs μ (μ 25) y f v (e + 1).toNat = hWs μ (μ 25) y f v e.toNat + if ((μ 14) e ≤ min y f ∧ min y f < (μ 15) e) ∧ xOn μ e y = v then xSpot μ (μ 25) e f else 0 := fun v => gSum_s _ _ e0
      have ihn : ∀ v, hWn μ y f v (e + 1).toNat = hWn μ y f v e.toNat + if ((μ 14) e ≤ min y f ∧ min y f < (μ 15) e) ∧ xOn μ e y = v then 1 else 0 := fun v => gSum_s _ _ e0
      refine gB_gG [51] 300 ?_
      (conv => whnf); try simp only [gO, gWe, ne_eq, Nat.reduceEqDiff, not_false_eq_true, true_or, or_true, true_and]
      repeat' (first | exact True.intro | (refine ⟨fun hb => ?_, fun hb => ?_⟩ <;> first | (exfalso; omega; done) | exact absurd True.intro hb | ((conv => whnf); try simp only [gO, gWe, ne_eq, Nat.reduceEqDiff, not_false_eq_true, true_or, or_true, true_and])) | (refine ⟨by omega, ?_⟩; (conv => whnf); try simp only [gO, gWe, ne_eq, Nat.reduceEqDiff, not_false_eq_true, true_or, or_true, true_and]) | (refine ⟨fun hb => ?_, ?_⟩ <;> first | (exfalso; omega; done) | exact absurd True.intro hb | ((conv => whnf); try simp only [gO, gWe, ne_eq, Nat.reduceEqDiff, not_false_eq_true, true_or, or_true, true_and])) | fail)
      refine t_40 (by omega) hI.1 e0 (by omega) (fun hp => ?_) (fun hp => ?_)
      · rw [s1 14 (by decide) (by decide), s1 15 (by decide) (by decide)] at hp
        have on := xOn_v hG hL hN e0 e1 (y := y) (by omega) (by omega)
        have o1 := (h1 _ on.1.1 on.1.2 on.2.1)
        have bs := hWs_b hG hL hN hO hf (xOn μ e y) (n := e.toNat) (by omega)
        have bn := hWn_b (μ := μ) (y := y) (f := f) (xOn μ e y) e.toNat
        have sb := xSpot_b hG hL hN hO e0 e1 (y := f) (by omega) (by omega)
        have xe : xSpot ν (ν 25) = xSpot μ (μ 25) := by rw [xSpot_c s1, hν 25 (by decide)]
        (conv => whnf); try simp only [gO, gWe, ne_eq, Nat.reduceEqDiff, not_false_eq_true, true_or, or_true, true_and]
        repeat' (first | exact True.intro | (refine ⟨fun hb => ?_, fun hb => ?_⟩ <;> first | (exfalso; omega; done) | exact absurd True.intro hb | ((conv => whnf); try simp only [gO, gWe, ne_eq, Nat.reduceEqDiff, not_false_eq_true, true_or, or_true, true_and])) | (refine ⟨by omega, ?_⟩; (conv => whnf); try simp only [gO, gWe, ne_eq, Nat.reduceEqDiff, not_false_eq_true, true_or, or_true, true_and]) | (refine ⟨fun hb => ?_, ?_⟩ <;> first | (exfalso; omega; done) | exact absurd True.intro hb | ((conv => whnf); try simp only [gO, gWe, ne_eq, Nat.reduceEqDiff, not_false_eq_true, true_or, or_true, true_and])) | fail)
        refine t_39 (by omega) hI.1 hI.2.1 hI.2.2.1 e0 (by omega) ?_
        rw [xOn_c s1]
        (conv => whnf); try simp only [gO, gWe, ne_eq, Nat.reduceEqDiff, not_false_eq_true, true_or, or_true, true_and]
        repeat' (first | exact True.intro | (refine ⟨fun hb => ?_, fun hb => ?_⟩ <;> first | (exfalso; omega; done) | exact absurd True.intro hb | ((conv => whnf); try simp only [gO, gWe, ne_eq, Nat.reduceEqDiff, not_false_eq_true, true_or, or_true, true_and])) | (refine ⟨by omega, ?_⟩; (conv => whnf); try simp only [gO, gWe, ne_eq, Nat.reduceEqDiff, not_false_eq_true, true_or, or_true, true_and]) | (refine ⟨fun hb => ?_, ?_⟩ <;> first | (exfalso; omega; done) | exact absurd True.intro hb | ((conv => whnf); try simp only [gO, gWe, ne_eq, Nat.reduceEqDiff, not_false_eq_true, true_or, or_true, true_and])) | fail)
        have t14 : (ν 14) e = (μ 14) e := by rw [s1 14 (by decide) (by decide)]
        have t15 : (ν 15) e = (μ 15) e := by rw [s1 15 (by decide) (by decide)]
        refine t_54 (by omega) hI.1 hI.2.1 hI.2.2.1 hI.2.2.2 e0 (by omega) (by omega) (by omega) ?_
        rw [xe]
        (conv => whnf); try simp only [gO, gWe, ne_eq, Nat.reduceEqDiff, not_false_eq_true, true_or, or_true, true_and]
        repeat' (first | exact True.intro | (refine ⟨fun hb => ?_, fun hb => ?_⟩ <;> first | (exfalso; omega; done) | exact absurd True.intro hb | ((conv => whnf); try simp only [gO, gWe, ne_eq, Nat.reduceEqDiff, not_false_eq_true, true_or, or_true, true_and])) | (refine ⟨by omega, ?_⟩; (conv => whnf); try simp only [gO, gWe, ne_eq, Nat.reduceEqDiff, not_false_eq_true, true_or, or_true, true_and]) | (refine ⟨fun hb => ?_, ?_⟩ <;> first | (exfalso; omega; done) | exact absurd True.intro hb | ((conv => whnf); try simp only [gO, gWe, ne_eq, Nat.reduceEqDiff, not_false_eq_true, true_or, or_true, true_and])) | fail)
        refine ih _ _ ((hν.W (by decide)).W (by decide)) (fun v v0 v1 vy => ?_)
        rw [ihs, ihn]
        have hv := h1 v v0 v1 vy
        by_cases c : v = xOn μ e y
        · subst c
          rw [if_pos ⟨hp, rfl⟩, if_pos ⟨hp, rfl⟩, gO (by decide), gWe, gWe, hv.1, hv.2]
          exact ⟨rfl, rfl⟩
        · rw [if_neg (fun h => c h.2.symm), if_neg (fun h => c h.2.symm), gO (by decide), gWn _ _ _ c, gWn _ _ _ c, gO (by decide), Int.add_zero, Int.add_zero]
          exact hv
      · rw [s1 14 (by decide) (by decide), s1 15 (by decide) (by decide)] at hp
        (conv => whnf); try simp only [gO, gWe, ne_eq, Nat.reduceEqDiff, not_false_eq_true, true_or, or_true, true_and]
        repeat' (first | exact True.intro | (refine ⟨fun hb => ?_, fun hb => ?_⟩ <;> first | (exfalso; omega; done) | exact absurd True.intro hb | ((conv => whnf); try simp only [gO, gWe, ne_eq, Nat.reduceEqDiff, not_false_eq_true, true_or, or_true, true_and])) | (refine ⟨by omega, ?_⟩; (conv => whnf); try simp only [gO, gWe, ne_eq, Nat.reduceEqDiff, not_false_eq_true, true_or, or_true, true_and]) | (refine ⟨fun hb => ?_, ?_⟩ <;> first | (exfalso; omega; done) | exact absurd True.intro hb | ((conv => whnf); try simp only [gO, gWe, ne_eq, Nat.reduceEqDiff, not_false_eq_true, true_or, or_true, true_and])) | fail)
        refine ih ν x hν (fun v v0 v1 vy => ?_)
        rw [ihs, ihn, if_neg (fun h => hp h.1), if_neg (fun h => hp h.1), Int.add_zero, Int.add_zero]
        exact h1 v v0 v1 vy
    · have s1 : hSt μ ν := hν.st (by decide)
      have eq1 : (ν 1 1) = (μ 1 1) := by rw [s1 1 (by decide) (by decide)]
      have f1 : (ν 23) y = (μ 23) y := by rw [s1 23 (by decide) (by decide)]
      refine gB_gG [51,123] 300 ?_
      (conv => whnf); try simp only [gO, gWe, ne_eq, Nat.reduceEqDiff, not_false_eq_true, true_or, or_true, true_and]
      repeat' (first | exact True.intro | (refine ⟨fun hb => ?_, fun hb => ?_⟩ <;> first | (exfalso; omega; done) | exact absurd True.intro hb | ((conv => whnf); try simp only [gO, gWe, ne_eq, Nat.reduceEqDiff, not_false_eq_true, true_or, or_true, true_and])) | (refine ⟨by omega, ?_⟩; (conv => whnf); try simp only [gO, gWe, ne_eq, Nat.reduceEqDiff, not_false_eq_true, true_or, or_true, true_and]) | (refine ⟨fun hb => ?_, ?_⟩ <;> first | (exfalso; omega; done) | exact absurd True.intro hb | ((conv => whnf); try simp only [gO, gWe, ne_eq, Nat.reduceEqDiff, not_false_eq_true, true_or, or_true, true_and])) | fail)
      have z := l3 ((μ 23) y) (by omega) (by omega) ν x hν (fun v v0 v1 vy => ⟨fun h => by have := (hO.2 v v0 v1).1; omega, fun _ => h1 v v0 v1 vy⟩)
      rw [← f1] at z
      exact z
  -- the first loop
  have l1 : ∀ k : Int, (μ 23) y ≤ k → k ≤ (μ 23) (y + 1) → ∀ (ν : MU), gFr [29, 30] μ ν → (∀ v : Int, 0 ≤ v → v < (μ 19 2) → (μ 21) v = y → (μ 23) y + (μ 25) v < k → (ν 29) v = 0 ∧ (ν 30) v = 0) → gG g_T g_F (gCall g_T g_F sN sX d) sN sX (g_T 60) Q 7 [gR 19, gI y, gI f, gI k, gN 2] [] g_SH ν 0 0 := by
    refine g_up (fun k k0 k1 ih ν hν h1 => ?_) (fun ν hν h1 => ?_)
    · have s1 : hSt μ ν := hν.st (by decide)
      have f2 : (ν 23) (y + 1) = (μ 23) (y + 1) := by rw [s1 23 (by decide) (by decide)]
      have f3 : (ν 24) k = (μ 24) k := by rw [hν 24 (by decide)]
      have a := hO.1 y y0 y1 k k0 k1
      refine gB_gG [7] 300 ?_
      (conv => whnf); try simp only [gO, gWe, ne_eq, Nat.reduceEqDiff, not_false_eq_true, true_or, or_true, true_and]
      repeat' (first | exact True.intro | (refine ⟨fun hb => ?_, fun hb => ?_⟩ <;> first | (exfalso; omega; done) | exact absurd True.intro hb | ((conv => whnf); try simp only [gO, gWe, ne_eq, Nat.reduceEqDiff, not_false_eq_true, true_or, or_true, true_and])) | (refine ⟨by omega, ?_⟩; (conv => whnf); try simp only [gO, gWe, ne_eq, Nat.reduceEqDiff, not_false_eq_true, true_or, or_true, true_and]) | (refine ⟨fun hb => ?_, ?_⟩ <;> first | (exfalso; omega; done) | exact absurd True.intro hb | ((conv => whnf); try simp only [gO, gWe, ne_eq, Nat.reduceEqDiff, not_false_eq_true, true_or, or_true, true_and])) | fail)
      rw [f3]
      refine ih _ ((hν.W (by decide)).W (by decide)) (fun v v0 v1 vy hk => ?_)
      by_cases c : v = (μ 24) k
      · subst c
        rw [gO (by decide), gWe, gWe]
        exact ⟨rfl, rfl⟩
      · rw [gO (by decide), gWn _ _ _ c, gWn _ _ _ c, gO (by decide)]
        have := (hO.2 v v0 v1).2.2
        rw [vy] at this
        refine h1 v v0 v1 vy ?_
        by_cases e : (μ 23) y + (μ 25) v = k
        · rw [e] at this; exact absurd this.symm c
        · omega
    · have s1 : hSt μ ν := hν.st (by decide)
      have f2 : (ν 23) (y + 1) = (μ 23) (y + 1) := by rw [s1 23 (by decide) (by decide)]
      refine gB_gG [7,51] 300 ?_
      (conv => whnf); try simp only [gO, gWe, ne_eq, Nat.reduceEqDiff, not_false_eq_true, true_or, or_true, true_and]
      repeat' (first | exact True.intro | (refine ⟨fun hb => ?_, fun hb => ?_⟩ <;> first | (exfalso; omega; done) | exact absurd True.intro hb | ((conv => whnf); try simp only [gO, gWe, ne_eq, Nat.reduceEqDiff, not_false_eq_true, true_or, or_true, true_and])) | (refine ⟨by omega, ?_⟩; (conv => whnf); try simp only [gO, gWe, ne_eq, Nat.reduceEqDiff, not_false_eq_true, true_or, or_true, true_and]) | (refine ⟨fun hb => ?_, ?_⟩ <;> first | (exfalso; omega; done) | exact absurd True.intro hb | ((conv => whnf); try simp only [gO, gWe, ne_eq, Nat.reduceEqDiff, not_false_eq_true, true_or, or_true, true_and])) | fail)
      refine l2 0 (by omega) (by omega) ν _ hν (fun v v0 v1 vy => h1 v v0 v1 vy ?_)
      have := (hO.2 v v0 v1).2.1
      rw [vy] at this
      omega
  exact l1 ((μ 23) y) (by omega) (by omega) μ gFr.rf (fun v v0 v1 vy h => by have := (hO.2 v v0 v1).1; omega)
theorem t_59 {D : Nat} (hD : 4 ≤ D) {μ : MU} {Q : GQ} {y f : Int} (hH0 : iH μ) (y0 : 0 ≤ y) (y1 : y < (μ 9 1)) (hf : f = y - 1 ∨ f = y + 1) (h : ∀ ν : MU, gFr [24, 25, 28, 29, 30] μ ν → ((ν 24), (ν 25)) = swp1 μ y f ((μ 24), (μ 25)) → Q none g_SH ν) : gCall g_T g_F sN sX D 59 [gR 19, gI y, gI f] g_SH μ Q := by
  have hG := hH0.1
  have hL := hH0.2.1
  have hN := hH0.2.2.1
  have hO := hH0.2.2.2
  have L := hL.2.2.2.1
  have V := hN.1
  have G := hG.1
  have st := (iN_st hG hL hN).1 y y0 y1
  obtain ⟨d, rfl⟩ := gD (show 1 ≤ D by omega)
  refine gC 300 [15] rfl ?_
  (conv => whnf); try simp only [gO, gWe, ne_eq, Nat.reduceEqDiff, not_false_eq_true, true_or, or_true, true_and]
  refine t_60 (by omega) hH0 y0 y1 hf (fun μ₁ hμ₁ hw => ?_)
  have b1 : hSt μ μ₁ := hμ₁.st (by decide)
  have g1 : (μ₁ 23) y = (μ 23) y := by rw [b1 23 (by decide) (by decide)]
  (conv => whnf); try simp only [gO, gWe, ne_eq, Nat.reduceEqDiff, not_false_eq_true, true_or, or_true, true_and]
  repeat' (first | exact True.intro | (refine ⟨fun hb => ?_, fun hb => ?_⟩ <;> first | (exfalso; omega; done) | exact absurd True.intro hb | ((conv => whnf); try simp only [gO, gWe, ne_eq, Nat.reduceEqDiff, not_false_eq_true, true_or, or_true, true_and])) | (refine ⟨by omega, ?_⟩; (conv => whnf); try simp only [gO, gWe, ne_eq, Nat.reduceEqDiff, not_false_eq_true, true_or, or_true, true_and]) | (refine ⟨fun hb => ?_, ?_⟩ <;> first | (exfalso; omega; done) | exact absurd True.intro hb | ((conv => whnf); try simp only [gO, gWe, ne_eq, Nat.reduceEqDiff, not_false_eq_true, true_or, or_true, true_and])) | fail)
  rw [g1]
  have key : ∀ i : Int, (μ 23) y + 1 ≤ i → i ≤ max ((μ 23) y + 1) ((μ 23) (y + 1)) → ∀ (ν : MU) (x z w : GV), gFr [24, 29, 30] μ ν → gFr [24] μ₁ ν → (ν 24) = srtF (xW μ (μ 25) y f) (xN μ y f) (μ 24) ((μ 23) y) (i - (μ 23) y - 1).toNat → gG g_T g_F (gCall g_T g_F sN sX d) sN sX (g_T 59) Q 15 [gR 19, gI y, gI f, gI i, x, z, w] [] g_SH ν 0 0 := by
    refine g_up (fun i i0 i1 ih ν x z w hν hν1 hs => ?_) (fun ν x z w hν hν1 hs => ?_)
    · have s1 : hSt μ ν := hν.st (by decide)
      have f1 : (ν 23) y = (μ 23) y := by rw [s1 23 (by decide) (by decide)]
      have f2 : (ν 23) (y + 1) = (μ 23) (y + 1) := by rw [s1 23 (by decide) (by decide)]
      have oy := iOy_srt (xW μ (μ 25) y f) (xN μ y f) hG hL hN hO y0 y1 (i - (μ 23) y - 1).toNat (by omega)
      rw [show (i + 1 - (μ 23) y - 1).toNat = (i - (μ 23) y - 1).toNat + 1 by omega] at ih
      rw [← hs] at oy
      -- the inner loop
      have inn : ∀ j : Int, (μ 23) y - 1 ≤ j → j ≤ i - 1 → ∀ ρ : MU, gFr [24, 29, 30] μ ρ → gFr [24] μ₁ ρ → iOy μ (gUp (ρ 24) (j + 1) ((ν 24) i)) (μ 25) y → insF (xW μ (μ 25) y f) (xN μ y f) (j + 1 - (μ 23) y).toNat (gUp (ρ 24) (j + 1) ((ν 24) i)) (j + 1) = insF (xW μ (μ 25) y f) (xN μ y f) ((i - (μ 23) y - 1).toNat + 1) (ν 24) i → gG g_T g_F (gCall g_T g_F sN sX d) sN sX (g_T 59) Q 43 [gR 19, gI y, gI f, gI i, gI ((ν 24) i), gI (j + 1), gI j] [] g_SH ρ 0 0 := by
        refine g_dn (fun j j0 j1 ihj ρ hρ hρ1 ho hi => ?_) (fun ρ hρ hρ1 ho hi => ?_)
        · have t1 : hSt μ ρ := hρ.st (by decide)
          have u1 : (ρ 23) y = (μ 23) y := by rw [t1 23 (by decide) (by decide)]
          obtain ⟨pl', o1, o2⟩ := ho
          have q1 := o1.1 y y0 y1 (j + 1) (by omega) (by omega)
          have q2 := o1.1 y y0 y1 j (by omega) (by omega)
          rw [gUp_s] at q1
          rw [gUp_o _ _ (by omega)] at q2
          have w1 := hw ((ν 24) i) q1.1.1 q1.1.2 q1.2.1
          have w2 := hw ((ρ 24) j) q2.1.1 q2.1.2 q2.2.1
          rw [← hρ1 29 (by decide), ← hρ1 30 (by decide)] at w1 w2
          have x1 := xW_b hG hL hN hO hf q1.1.1 q1.1.2
          have x2 := xW_b hG hL hN hO hf q2.1.1 q2.1.2
          rw [show (j + 1 - (μ 23) y).toNat = (j - (μ 23) y).toNat + 1 by omega] at hi
          unfold insF at hi
          rw [gUp_s, gUp_o _ _ (show j + 1 - 1 ≠ j + 1 by omega), show j + 1 - 1 = j by omega] at hi
          refine gB_gG [43,15] 300 ?_
          (conv => whnf); try simp only [gO, gWe, ne_eq, Nat.reduceEqDiff, not_false_eq_true, true_or, or_true, true_and]
          repeat' (first | exact True.intro | (refine ⟨fun hb => ?_, fun hb => ?_⟩ <;> first | (exfalso; omega; done) | exact absurd True.intro hb | ((conv => whnf); try simp only [gO, gWe, ne_eq, Nat.reduceEqDiff, not_false_eq_true, true_or, or_true, true_and])) | (refine ⟨by omega, ?_⟩; (conv => whnf); try simp only [gO, gWe, ne_eq, Nat.reduceEqDiff, not_false_eq_true, true_or, or_true, true_and]) | (refine ⟨fun hb => ?_, ?_⟩ <;> first | (exfalso; omega; done) | exact absurd True.intro hb | ((conv => whnf); try simp only [gO, gWe, ne_eq, Nat.reduceEqDiff, not_false_eq_true, true_or, or_true, true_and])) | fail)
          refine t_61 (by omega) (by omega) (by omega) ?_ ?_ ?_ ?_ (fun hlt => ?_) (fun hlt => ?_)
          · rw [w1.1]; omega
          · rw [w2.1]; omega
          · rw [w1.2]; omega
          · rw [w2.2]; omega
          · rw [w1.1, w1.2, w2.1, w2.2] at hlt
            rw [if_pos hlt] at hi
            (conv => whnf); try simp only [gO, gWe, ne_eq, Nat.reduceEqDiff, not_false_eq_true, true_or, or_true, true_and]
            repeat' (first | exact True.intro | (refine ⟨fun hb => ?_, fun hb => ?_⟩ <;> first | (exfalso; omega; done) | exact absurd True.intro hb | ((conv => whnf); try simp only [gO, gWe, ne_eq, Nat.reduceEqDiff, not_false_eq_true, true_or, or_true, true_and])) | (refine ⟨by omega, ?_⟩; (conv => whnf); try simp only [gO, gWe, ne_eq, Nat.reduceEqDiff, not_false_eq_true, true_or, or_true, true_and]) | (refine ⟨fun hb => ?_, ?_⟩ <;> first | (exfalso; omega; done) | exact absurd True.intro hb | ((conv => whnf); try simp only [gO, gWe, ne_eq, Nat.reduceEqDiff, not_false_eq_true, true_or, or_true, true_and])) | fail)
            have sw : swS (gUp (ρ 24) (j + 1) ((ν 24) i)) j = gUp (gUp (ρ 24) (j + 1) ((ρ 24) j)) j ((ν 24) i) := by
              funext k
              unfold swS gUp
              by_cases c1 : k = j
              · subst c1; simp only [show k ≠ k + 1 by omega, if_true, if_false]
              · by_cases c2 : k = j + 1
                · subst c2; simp only [c1, if_true, if_false, show j ≠ j + 1 by omega]
                · simp only [c1, c2, if_false]
            rw [sw] at hi
            have ho' := iOy_sw hG hL hN ⟨pl', o1, o2⟩ y0 y1 (i := j) (by omega) (by omega)
            rw [sw] at ho'
            have e1 : gW ρ 24 (j + 1) ((ρ 24) j) 24 = gUp (ρ 24) (j + 1) ((ρ 24) j) := rfl
            rw [show j - 1 + 1 = j by omega] at ihj
            refine ihj (gW ρ 24 (j + 1) ((ρ 24) j)) (hρ.W (by decide)) (hρ1.W (by decide)) ?_ ?_
            · rw [e1]; exact ho'
            · rw [e1]; exact hi
          · rw [w1.1, w1.2, w2.1, w2.2] at hlt
            rw [if_neg hlt] at hi
            (conv => whnf); try simp only [gO, gWe, ne_eq, Nat.reduceEqDiff, not_false_eq_true, true_or, or_true, true_and]
            repeat' (first | exact True.intro | (refine ⟨fun hb => ?_, fun hb => ?_⟩ <;> first | (exfalso; omega; done) | exact absurd True.intro hb | ((conv => whnf); try simp only [gO, gWe, ne_eq, Nat.reduceEqDiff, not_false_eq_true, true_or, or_true, true_and])) | (refine ⟨by omega, ?_⟩; (conv => whnf); try simp only [gO, gWe, ne_eq, Nat.reduceEqDiff, not_false_eq_true, true_or, or_true, true_and]) | (refine ⟨fun hb => ?_, ?_⟩ <;> first | (exfalso; omega; done) | exact absurd True.intro hb | ((conv => whnf); try simp only [gO, gWe, ne_eq, Nat.reduceEqDiff, not_false_eq_true, true_or, or_true, true_and])) | fail)
            refine ih _ _ _ _ (hρ.W (by decide)) (hρ1.W (by decide)) ?_
            show gUp (ρ 24) (j + 1) ((ν 24) i) = insF _ _ _ _ _
            rw [hi, hs, show (μ 23) y + (((i - (μ 23) y - 1).toNat : Int) + 1) = i by omega]
            rfl
        · have t1 : hSt μ ρ := hρ.st (by decide)
          have u1 : (ρ 23) y = (μ 23) y := by rw [t1 23 (by decide) (by decide)]
          rw [show ((μ 23) y - 1 + 1 - (μ 23) y).toNat = 0 by omega] at hi
          have hi' : gUp (ρ 24) ((μ 23) y - 1 + 1) ((ν 24) i) = _ := hi
          refine gB_gG [43,15] 300 ?_
          (conv => whnf); try simp only [gO, gWe, ne_eq, Nat.reduceEqDiff, not_false_eq_true, true_or, or_true, true_and]
          repeat' (first | exact True.intro | (refine ⟨fun hb => ?_, fun hb => ?_⟩ <;> first | (exfalso; omega; done) | exact absurd True.intro hb | ((conv => whnf); try simp only [gO, gWe, ne_eq, Nat.reduceEqDiff, not_false_eq_true, true_or, or_true, true_and])) | (refine ⟨by omega, ?_⟩; (conv => whnf); try simp only [gO, gWe, ne_eq, Nat.reduceEqDiff, not_false_eq_true, true_or, or_true, true_and]) | (refine ⟨fun hb => ?_, ?_⟩ <;> first | (exfalso; omega; done) | exact absurd True.intro hb | ((conv => whnf); try simp only [gO, gWe, ne_eq, Nat.reduceEqDiff, not_false_eq_true, true_or, or_true, true_and])) | fail)
          refine ih _ _ _ _ (hρ.W (by decide)) (hρ1.W (by decide)) ?_
          show gUp (ρ 24) ((μ 23) y - 1 + 1) ((ν 24) i) = insF _ _ _ _ _
          rw [hi', hs, show (μ 23) y + (((i - (μ 23) y - 1).toNat : Int) + 1) = i by omega]
      have same : gUp (ν 24) (i - 1 + 1) ((ν 24) i) = (ν 24) := by
        funext k
        unfold gUp
        by_cases c : k = i
        · subst c; rw [if_pos (by omega)]
        · rw [if_neg (by omega)]
      have z := inn (i - 1) (by omega) (by omega) ν hν hν1 (by rw [same]; exact oy) (by rw [same, show i - 1 + 1 = i by omega, show (i - (μ 23) y).toNat = (i - (μ 23) y - 1).toNat + 1 by omega])
      rw [show i - 1 + 1 = i by omega] at z
      refine gB_gG [43] 300 ?_
      (conv => whnf); try simp only [gO, gWe, ne_eq, Nat.reduceEqDiff, not_false_eq_true, true_or, or_true, true_and]
      repeat' (first | exact True.intro | (refine ⟨fun hb => ?_, fun hb => ?_⟩ <;> first | (exfalso; omega; done) | exact absurd True.intro hb | ((conv => whnf); try simp only [gO, gWe, ne_eq, Nat.reduceEqDiff, not_false_eq_true, true_or, or_true, true_and])) | (refine ⟨by omega, ?_⟩; (conv => whnf); try simp only [gO, gWe, ne_eq, Nat.reduceEqDiff, not_false_eq_true, true_or, or_true, true_and]) | (refine ⟨fun hb => ?_, ?_⟩ <;> first | (exfalso; omega; done) | exact absurd True.intro hb | ((conv => whnf); try simp only [gO, gWe, ne_eq, Nat.reduceEqDiff, not_false_eq_true, true_or, or_true, true_and])) | fail)
      exact z
    · have s1 : hSt μ ν := hν.st (by decide)
      have f1 : (ν 23) y = (μ 23) y := by rw [s1 23 (by decide) (by decide)]
      have f2 : (ν 23) (y + 1) = (μ 23) (y + 1) := by rw [s1 23 (by decide) (by decide)]
      obtain ⟨pl', o1, o2⟩ := iOy_srt (xW μ (μ 25) y f) (xN μ y f) hG hL hN hO y0 y1 (max ((μ 23) y + 1) ((μ 23) (y + 1)) - (μ 23) y - 1).toNat (by omega)
      rw [← hs] at o1
      refine gB_gG [15] 300 ?_
      (conv => whnf); try simp only [gO, gWe, ne_eq, Nat.reduceEqDiff, not_false_eq_true, true_or, or_true, true_and]
      repeat' (first | exact True.intro | (refine ⟨fun hb => ?_, fun hb => ?_⟩ <;> first | (exfalso; omega; done) | exact absurd True.intro hb | ((conv => whnf); try simp only [gO, gWe, ne_eq, Nat.reduceEqDiff, not_false_eq_true, true_or, or_true, true_and])) | (refine ⟨by omega, ?_⟩; (conv => whnf); try simp only [gO, gWe, ne_eq, Nat.reduceEqDiff, not_false_eq_true, true_or, or_true, true_and]) | (refine ⟨fun hb => ?_, ?_⟩ <;> first | (exfalso; omega; done) | exact absurd True.intro hb | ((conv => whnf); try simp only [gO, gWe, ne_eq, Nat.reduceEqDiff, not_false_eq_true, true_or, or_true, true_and])) | fail)
      refine t_51 (by omega) (pl := pl') (iG_c s1 hG) (iL_c s1 hL) (iN_c s1 hN) (iO_c s1 o1) y0 (by rw [s1 9 (by decide) (by decide)]; exact y1) (fun ρ hρ hc => ?_)
      (conv => whnf); try simp only [gO, gWe, ne_eq, Nat.reduceEqDiff, not_false_eq_true, true_or, or_true, true_and]
      refine h ρ ((hν.mo (by decide)).tr (hρ.mo (by decide))) ?_
      rw [hc, clo2_c s1, hν 25 (by decide), hs]
      unfold swp1
      rw [show (max ((μ 23) y + 1) ((μ 23) (y + 1)) - (μ 23) y - 1).toNat = ((μ 23) (y + 1) - (μ 23) y - 1).toNat by omega]
  exact key ((μ 23) y + 1) (by omega) (by omega) μ₁ _ _ _ (hμ₁.mo (by decide)) gFr.rf (by rw [hμ₁ 24 (by decide), show ((μ 23) y + 1 - (μ 23) y - 1).toNat = 0 by omega]; rfl)
/-- a whole sweep -/
def swpD (μ : MU) (s : GO) : Nat → GO
  | 0 => s
  | c + 1 => swp1 μ (c + 1) c (swpD μ s c)
def swpU (μ : MU) (s : GO) : Nat → GO
  | 0 => s
  | c + 1 => swp1 μ ((μ 9 1) - 1 - (c + 1)) ((μ 9 1) - 1 - c) (swpU μ s c)
def swpA (μ : MU) (b : Int) (s : GO) : GO := if b = 0 then swpU μ s ((μ 9 1) - 1).toNat else swpD μ s ((μ 9 1) - 1).toNat
def iOC (μ : MU) (s : GO) : Prop := iO μ s.1 s.2 ∧ ∀ z : Int, 0 ≤ z → z < (μ 9 1) → iC μ s.1 z
theorem swpD_o {μ : MU} {s : GO} (hG : iG μ) (hL : iL μ) (hN : iN μ) (hO : iOC μ s) : ∀ c : Nat, (c = 0 ∨ (c : Int) < (μ 9 1)) → iOC μ (swpD μ s c) := by
  intro c
  induction c with
  | zero => intro _; exact hO
  | succ c ih =>
    intro h
    have i := ih (by omega)
    exact ⟨swp1_o hG hL hN i.1 (by omega) (by omega), swp1_k hG hL hN i.1 (by omega) (by omega) i.2⟩
theorem swpU_o {μ : MU} {s : GO} (hG : iG μ) (hL : iL μ) (hN : iN μ) (hO : iOC μ s) : ∀ c : Nat, (c = 0 ∨ (c : Int) < (μ 9 1)) → iOC μ (swpU μ s c) := by
  intro c
  induction c with
  | zero => intro _; exact hO
  | succ c ih =>
    intro h
    have i := ih (by omega)
    exact ⟨swp1_o hG hL hN i.1 (by omega) (by omega), swp1_k hG hL hN i.1 (by omega) (by omega) i.2⟩
theorem swpA_o {μ : MU} {s : GO} (hG : iG μ) (hL : iL μ) (hN : iN μ) (hO : iOC μ s) (b : Int) : iOC μ (swpA μ b s) := by
  unfold swpA
  split
  · exact swpU_o hG hL hN hO _ (by omega)
  · exact swpD_o hG hL hN hO _ (by omega)
theorem t_58 {D : Nat} (hD : 5 ≤ D) {μ : MU} {Q : GQ} {b : Int} (hH0 : iH μ) (hC : ∀ z : Int, 0 ≤ z → z < (μ 9 1) → iC μ (μ 24) z) (h : ∀ ν : MU, gFr [24, 25, 28, 29, 30] μ ν → ((ν 24), (ν 25)) = swpA μ b ((μ 24), (μ 25)) → Q none g_SH ν) : gCall g_T g_F sN sX D 58 [gR 19, gI b] g_SH μ Q := by
  have hG := hH0.1
  have hL := hH0.2.1
  have hN := hH0.2.2.1
  have hOC : iOC μ ((μ 24), (μ 25)) := ⟨hH0.2.2.2, hC⟩
  have L := hL.2.2.2.1
  have oD := swpD_o hG hL hN hOC
  have oU := swpU_o hG hL hN hOC
  unfold swpA at h
  obtain ⟨d, rfl⟩ := gD (show 1 ≤ D by omega)
  refine gC 300 [6,44] rfl ?_
  (conv => whnf); try simp only [gO, gWe, ne_eq, Nat.reduceEqDiff, not_false_eq_true, true_or, or_true, true_and]
  repeat' (first | exact True.intro | (refine ⟨fun hb => ?_, fun hb => ?_⟩ <;> first | (exfalso; omega; done) | exact absurd True.intro hb | ((conv => whnf); try simp only [gO, gWe, ne_eq, Nat.reduceEqDiff, not_false_eq_true, true_or, or_true, true_and])) | (refine ⟨by omega, ?_⟩; (conv => whnf); try simp only [gO, gWe, ne_eq, Nat.reduceEqDiff, not_false_eq_true, true_or, or_true, true_and]) | (refine ⟨fun hb => ?_, ?_⟩ <;> first | (exfalso; omega; done) | exact absurd True.intro hb | ((conv => whnf); try simp only [gO, gWe, ne_eq, Nat.reduceEqDiff, not_false_eq_true, true_or, or_true, true_and])) | fail)
  · rw [if_pos (by omega)] at h
    have key : ∀ y : Int, -1 ≤ y → y ≤ max (-1) ((μ 9 1) - 2) → ∀ ν : MU, gFr [24, 25, 28, 29, 30] μ ν → ((ν 24), (ν 25)) = swpU μ ((μ 24), (μ 25)) ((μ 9 1) - 2 - y).toNat → gG g_T g_F (gCall g_T g_F sN sX d) sN sX (g_T 58) Q 44 [gR 19, gI b, gI y] [] g_SH ν 0 0 := by
      refine g_dn (fun y y0 y1 ih ν hν hs => ?_) (fun ν hν hs => ?_)
      · have s1 : hSt μ ν := hν.st (by decide)
        have o := oU ((μ 9 1) - 2 - y).toNat (by omega)
        rw [← hs] at o
        have hI : iH ν := ⟨iG_c s1 hG, iL_c s1 hL, iN_c s1 hN, iO_c s1 o.1⟩
        have f9 : (ν 9 1) = (μ 9 1) := by rw [s1 9 (by decide) (by decide)]
        refine gB_gG [44] 300 ?_
        (conv => whnf); try simp only [gO, gWe, ne_eq, Nat.reduceEqDiff, not_false_eq_true, true_or, or_true, true_and]
        repeat' (first | exact True.intro | (refine ⟨fun hb => ?_, fun hb => ?_⟩ <;> first | (exfalso; omega; done) | exact absurd True.intro hb | ((conv => whnf); try simp only [gO, gWe, ne_eq, Nat.reduceEqDiff, not_false_eq_true, true_or, or_true, true_and])) | (refine ⟨by omega, ?_⟩; (conv => whnf); try simp only [gO, gWe, ne_eq, Nat.reduceEqDiff, not_false_eq_true, true_or, or_true, true_and]) | (refine ⟨fun hb => ?_, ?_⟩ <;> first | (exfalso; omega; done) | exact absurd True.intro hb | ((conv => whnf); try simp only [gO, gWe, ne_eq, Nat.reduceEqDiff, not_false_eq_true, true_or, or_true, true_and])) | fail)
        refine t_59 (by omega) hI (by omega) (by omega) (Or.inr rfl) (fun ρ hρ hr => ?_)
        (conv => whnf); try simp only [gO, gWe, ne_eq, Nat.reduceEqDiff, not_false_eq_true, true_or, or_true, true_and]
        repeat' (first | exact True.intro | (refine ⟨fun hb => ?_, fun hb => ?_⟩ <;> first | (exfalso; omega; done) | exact absurd True.intro hb | ((conv => whnf); try simp only [gO, gWe, ne_eq, Nat.reduceEqDiff, not_false_eq_true, true_or, or_true, true_and])) | (refine ⟨by omega, ?_⟩; (conv => whnf); try simp only [gO, gWe, ne_eq, Nat.reduceEqDiff, not_false_eq_true, true_or, or_true, true_and]) | (refine ⟨fun hb => ?_, ?_⟩ <;> first | (exfalso; omega; done) | exact absurd True.intro hb | ((conv => whnf); try simp only [gO, gWe, ne_eq, Nat.reduceEqDiff, not_false_eq_true, true_or, or_true, true_and])) | fail)
        refine ih ρ (hν.tr hρ) ?_
        rw [hr, swp1_c s1, hs, show ((μ 9 1) - 2 - (y - 1)).toNat = ((μ 9 1) - 2 - y).toNat + 1 by omega]
        show _ = swp1 μ _ _ _
        rw [show (μ 9 1) - 1 - ((((μ 9 1) - 2 - y).toNat : Int) + 1) = y by omega, show (μ 9 1) - 1 - (((μ 9 1) - 2 - y).toNat : Int) = y + 1 by omega]
      · refine gB_gG [44] 300 ?_
        (conv => whnf); try simp only [gO, gWe, ne_eq, Nat.reduceEqDiff, not_false_eq_true, true_or, or_true, true_and]
        repeat' (first | exact True.intro | (refine ⟨fun hb => ?_, fun hb => ?_⟩ <;> first | (exfalso; omega; done) | exact absurd True.intro hb | ((conv => whnf); try simp only [gO, gWe, ne_eq, Nat.reduceEqDiff, not_false_eq_true, true_or, or_true, true_and])) | (refine ⟨by omega, ?_⟩; (conv => whnf); try simp only [gO, gWe, ne_eq, Nat.reduceEqDiff, not_false_eq_true, true_or, or_true, true_and]) | (refine ⟨fun hb => ?_, ?_⟩ <;> first | (exfalso; omega; done) | exact absurd True.intro hb | ((conv => whnf); try simp only [gO, gWe, ne_eq, Nat.reduceEqDiff, not_false_eq_true, true_or, or_true, true_and])) | fail)
        refine h ν hν ?_
        rw [hs, show ((μ 9 1) - 2 - -1).toNat = ((μ 9 1) - 1).toNat by omega]
    by_cases hc : (μ 9 1) = 0
    · show gG g_T g_F (gCall g_T g_F sN sX d) sN sX (g_T 58) Q 44 [gR 19, gI b, gI ((μ 9 1) - 2)] [] g_SH μ 0 0
      refine gB_gG [] 300 ?_
      (conv => whnf); try simp only [gO, gWe, ne_eq, Nat.reduceEqDiff, not_false_eq_true, true_or, or_true, true_and]
      repeat' (first | exact True.intro | (refine ⟨fun hb => ?_, fun hb => ?_⟩ <;> first | (exfalso; omega; done) | exact absurd True.intro hb | ((conv => whnf); try simp only [gO, gWe, ne_eq, Nat.reduceEqDiff, not_false_eq_true, true_or, or_true, true_and])) | (refine ⟨by omega, ?_⟩; (conv => whnf); try simp only [gO, gWe, ne_eq, Nat.reduceEqDiff, not_false_eq_true, true_or, or_true, true_and]) | (refine ⟨fun hb => ?_, ?_⟩ <;> first | (exfalso; omega; done) | exact absurd True.intro hb | ((conv => whnf); try simp only [gO, gWe, ne_eq, Nat.reduceEqDiff, not_false_eq_true, true_or, or_true, true_and])) | fail)
      refine h μ gFr.rf ?_
      rw [hc]
      rfl
    · exact key ((μ 9 1) - 2) (by omega) (by omega) μ gFr.rf (by rw [show ((μ 9 1) - 2 - ((μ 9 1) - 2)).toNat = 0 by omega]; rfl)
  · rw [if_neg (by omega)] at h
    have key : ∀ y : Int, 1 ≤ y → y ≤ max 1 (μ 9 1) → ∀ ν : MU, gFr [24, 25, 28, 29, 30] μ ν → ((ν 24), (ν 25)) = swpD μ ((μ 24), (μ 25)) (y - 1).toNat → gG g_T g_F (gCall g_T g_F sN sX d) sN sX (g_T 58) Q 6 [gR 19, gI b, gI y] [] g_SH ν 0 0 := by
      refine g_up (fun y y0 y1 ih ν hν hs => ?_) (fun ν hν hs => ?_)
      · have s1 : hSt μ ν := hν.st (by decide)
        have o := oD (y - 1).toNat (by omega)
        rw [← hs] at o
        have hI : iH ν := ⟨iG_c s1 hG, iL_c s1 hL, iN_c s1 hN, iO_c s1 o.1⟩
        have f9 : (ν 9 1) = (μ 9 1) := by rw [s1 9 (by decide) (by decide)]
        refine gB_gG [6] 300 ?_
        (conv => whnf); try simp only [gO, gWe, ne_eq, Nat.reduceEqDiff, not_false_eq_true, true_or, or_true, true_and]
        repeat' (first | exact True.intro | (refine ⟨fun hb => ?_, fun hb => ?_⟩ <;> first | (exfalso; omega; done) | exact absurd True.intro hb | ((conv => whnf); try simp only [gO, gWe, ne_eq, Nat.reduceEqDiff, not_false_eq_true, true_or, or_true, true_and])) | (refine ⟨by omega, ?_⟩; (conv => whnf); try simp only [gO, gWe, ne_eq, Nat.reduceEqDiff, not_false_eq_true, true_or, or_true, true_and]) | (refine ⟨fun hb => ?_, ?_⟩ <;> first | (exfalso; omega; done) | exact absurd True.intro hb | ((conv => whnf); try simp only [gO, gWe, ne_eq, Nat.reduceEqDiff, not_false_eq_true, true_or, or_true, true_and])) | fail)
        refine t_59 (by omega) hI (by omega) (by omega) (Or.inl rfl) (fun ρ hρ hr => ?_)
        (conv => whnf); try simp only [gO, gWe, ne_eq, Nat.reduceEqDiff, not_false_eq_true, true_or, or_true, true_and]
        repeat' (first | exact True.intro | (refine ⟨fun hb => ?_, fun hb => ?_⟩ <;> first | (exfalso; omega; done) | exact absurd True.intro hb | ((conv => whnf); try simp only [gO, gWe, ne_eq, Nat.reduceEqDiff, not_false_eq_true, true_or, or_true, true_and])) | (refine ⟨by omega, ?_⟩; (conv => whnf); try simp only [gO, gWe, ne_eq, Nat.reduceEqDiff, not_false_eq_true, true_or, or_true, true_and]) | (refine ⟨fun hb => ?_, ?_⟩ <;> first | (exfalso; omega; done) | exact absurd True.intro hb | ((conv => whnf); try simp only [gO, gWe, ne_eq, Nat.reduceEqDiff, not_false_eq_true, true_or, or_true, true_and])) | fail)
        refine ih ρ (hν.tr hρ) ?_
        rw [hr, swp1_c s1, hs, show (y + 1 - 1).toNat = (y - 1).toNat + 1 by omega]
        show _ = swp1 μ _ _ _
        rw [show ((y - 1).toNat : Int) + 1 = y by omega, show ((y - 1).toNat : Int) = y - 1 by omega]
      · have s1 : hSt μ ν := hν.st (by decide)
        have f9 : (ν 9 1) = (μ 9 1) := by rw [s1 9 (by decide) (by decide)]
        refine gB_gG [6] 300 ?_
        (conv => whnf); try simp only [gO, gWe, ne_eq, Nat.reduceEqDiff, not_false_eq_true, true_or, or_true, true_and]
        repeat' (first | exact True.intro | (refine ⟨fun hb => ?_, fun hb => ?_⟩ <;> first | (exfalso; omega; done) | exact absurd True.intro hb | ((conv => whnf); try simp only [gO, gWe, ne_eq, Nat.reduceEqDiff, not_false_eq_true, true_or, or_true, true_and])) | (refine ⟨by omega, ?_⟩; (conv => whnf); try simp only [gO, gWe, ne_eq, Nat.reduceEqDiff, not_false_eq_true, true_or, or_true, true_and]) | (refine ⟨fun hb => ?_, ?_⟩ <;> first | (exfalso; omega; done) | exact absurd True.intro hb | ((conv => whnf); try simp only [gO, gWe, ne_eq, Nat.reduceEqDiff, not_false_eq_true, true_or, or_true, true_and])) | fail)
        refine h ν hν ?_
        rw [hs, show (max 1 (μ 9 1) - 1).toNat = ((μ 9 1) - 1).toNat by omega]
    exact key 1 (by omega) (by omega) μ gFr.rf rfl
