/-! a case of the law: the class answers, the model answers the same, and all is as before -/
def hCs (D : Nat) (jc jm : Nat) (args : List GV) (μ : MU) : Prop := ∀ (Q : GQ) (Q' : Int → GQ), (∀ (v : Int) (ν : MU), gCall g_T g_F D jm (gR 61 :: args) g_SH ν (Q' v) → Q (some (gI v)) g_SH ν) → (∀ (v w : Int) (ρ : MU), w = v → iAll ρ → Q' v (some (gI w)) g_SH ρ) → gCall g_T g_F D jc (gR 0 :: args) g_SH μ Q
/-- texts and slots are as before -/
def hRs (μ ν : MU) : Prop := (∀ c : Nat, 37 ≤ c → c ≤ 60 → ν c = μ c) ∧ ν 36 1 = μ 36 1 ∧ ν 61 4 = μ 61 4 ∧ ν 63 = μ 63 ∧ ν 64 = μ 64
theorem hRs.tr {μ ν ρ : MU} (h : hRs μ ν) (h' : hRs ν ρ) : hRs μ ρ := ⟨fun c a b => (h'.1 c a b).trans (h.1 c a b), h'.2.1.trans h.2.1, h'.2.2.1.trans h.2.2.1, h'.2.2.2.1.trans h.2.2.2.1, h'.2.2.2.2.trans h.2.2.2.2⟩
theorem hRs_S {μ ν : MU} (h : hRs μ ν) (x : iS0 μ ∧ iS1 μ) : iS0 ν ∧ iS1 ν := by
  obtain ⟨h1, -, -, h4, h5⟩ := h
  unfold iS0 iS1 at *
  rw [h4, h5, h1 39 (by decide) (by decide), h1 40 (by decide) (by decide), h1 41 (by decide) (by decide), h1 42 (by decide) (by decide), h1 43 (by decide) (by decide), h1 44 (by decide) (by decide), h1 45 (by decide) (by decide), h1 46 (by decide) (by decide), h1 47 (by decide) (by decide), h1 48 (by decide) (by decide), h1 49 (by decide) (by decide), h1 50 (by decide) (by decide), h1 51 (by decide) (by decide), h1 52 (by decide) (by decide), h1 53 (by decide) (by decide), h1 54 (by decide) (by decide), h1 55 (by decide) (by decide), h1 56 (by decide) (by decide), h1 57 (by decide) (by decide), h1 58 (by decide) (by decide), h1 59 (by decide) (by decide), h1 60 (by decide) (by decide)]
  exact x
theorem hRs_T {μ ν : MU} (h : hRs μ ν) (h6 : ν 65 = μ 65) (x : iT μ) : iT ν := by
  unfold iT at *
  rw [h.2.1, h.2.2.1, h.1 37 (by decide) (by decide), h6]
  exact x
theorem iD_c {μ ν : MU} (h : hSt μ ν) (h1 : ν 24 = μ 24) (h2 : ν 25 = μ 25) (h3 : ν 34 = μ 34) (x : iD μ) : iD ν := by
  obtain ⟨a, b, c, d⟩ := x
  refine ⟨iN_c h a, by rw [h1, h2]; exact iO_c h b, fun y y0 y1 => ?_, fun v v0 v1 => ?_⟩
  · rw [h 9 (by decide) (by decide)] at y1
    rw [h1]; exact iC_c h (c y y0 y1)
  · rw [h 19 (by decide) (by decide)] at v1
    rw [h3]; exact d v v0 v1
theorem iA_c {μ ν : MU} (h : hSt μ ν) (h0 : ν 0 6 = μ 0 6) (h1 : ν 24 = μ 24) (h2 : ν 25 = μ 25) (h3 : ν 34 = μ 34) (x : iA μ) : iA ν := by
  obtain ⟨a, b, c, d⟩ := x
  refine ⟨iG_c h a, iL_c h b, by rw [h0]; exact c, fun hl => iD_c h h1 h2 h3 (d (by rw [← h0]; exact hl))⟩
theorem iB_c {μ ν : MU} (h : hSt μ ν) (h0 : ν 0 6 = μ 0 6) (h1 : ν 24 = μ 24) (h3 : ν 34 = μ 34) (h4 : ν 62 = μ 62) (x : iB μ) : iB ν := by
  unfold iB iGm iDm iDs at *
  simp only [h 1 (by decide) (by decide), h 2 (by decide) (by decide), h 3 (by decide) (by decide), h 4 (by decide) (by decide), h 5 (by decide) (by decide), h 6 (by decide) (by decide), h 7 (by decide) (by decide), h 8 (by decide) (by decide), h 9 (by decide) (by decide), h 10 (by decide) (by decide), h 11 (by decide) (by decide), h 12 (by decide) (by decide), h 13 (by decide) (by decide), h 14 (by decide) (by decide), h 15 (by decide) (by decide), h 16 (by decide) (by decide), h 17 (by decide) (by decide), h 18 (by decide) (by decide), h 19 (by decide) (by decide), h 20 (by decide) (by decide), h 21 (by decide) (by decide), h 22 (by decide) (by decide), h 23 (by decide) (by decide), h0, h1, h3, h4]
  exact x
theorem iFd_c {μ ν : MU} (h : hSt μ ν) (h1 : ν 66 = μ 66) (h2 : ν 67 = μ 67) (x : iFd μ) : iFd ν := by
  unfold iFd at *
  simp only [h 1 (by decide) (by decide), h 2 (by decide) (by decide), h 3 (by decide) (by decide), h 4 (by decide) (by decide), h 5 (by decide) (by decide), h 6 (by decide) (by decide), h 7 (by decide) (by decide), h 8 (by decide) (by decide), h 9 (by decide) (by decide), h 10 (by decide) (by decide), h 11 (by decide) (by decide), h 12 (by decide) (by decide), h 13 (by decide) (by decide), h 14 (by decide) (by decide), h 15 (by decide) (by decide), h 16 (by decide) (by decide), h 17 (by decide) (by decide), h 18 (by decide) (by decide), h 19 (by decide) (by decide), h 20 (by decide) (by decide), h 21 (by decide) (by decide), h 22 (by decide) (by decide), h 23 (by decide) (by decide), h1, h2]
  exact x
/-- only what is of one call has changed -/
def hScr (μ ν : MU) : Prop := gFr [26, 27, 28, 29, 30, 31, 32, 35, 36, 61, 66, 67, 68, 69, 70, 71, 72, 73, 74, 75, 76, 77, 78, 79, 80] μ ν ∧ ν 36 1 = μ 36 1 ∧ ν 61 4 = μ 61 4
theorem hScr.rs {μ ν : MU} (h : hScr μ ν) : hRs μ ν := ⟨fun c a b => h.1 c (fun hc => by simp only [List.mem_cons, List.not_mem_nil, or_false] at hc; omega), h.2.1, h.2.2, h.1 63 (by decide), h.1 64 (by decide)⟩
theorem hScr.st {μ ν : MU} (h : hScr μ ν) : hSt μ ν := h.1.st (by decide)
theorem hScr.tr {μ ν ρ : MU} (h : hScr μ ν) (h' : hScr ν ρ) : hScr μ ρ := ⟨h.1.tr h'.1, h'.2.1.trans h.2.1, h'.2.2.trans h.2.2⟩
theorem hScr.rf {μ : MU} : hScr μ μ := ⟨gFr.rf, rfl, rfl⟩
/-- cells of one call, and not those with something else in them -/
theorem gFr.sc {l : List Nat} {μ ν : MU} (h : gFr l μ ν) (hl : ∀ c ∈ l, c ∈ [26, 27, 28, 29, 30, 31, 32, 35, 68, 69, 70, 71, 72, 73, 74, 75, 76, 77, 78, 79, 80]) : hScr μ ν ∧ ν 61 = μ 61 ∧ ν 66 = μ 66 ∧ ν 67 = μ 67 := by
  have no : ∀ c : Nat, c ∉ [26, 27, 28, 29, 30, 31, 32, 35, 68, 69, 70, 71, 72, 73, 74, 75, 76, 77, 78, 79, 80] → c ∉ l := fun c hc h => hc (hl c h)
  refine ⟨⟨h.mo (fun c hc => ?_), ?_, ?_⟩, h 61 (no 61 (by decide)), h 66 (no 66 (by decide)), h 67 (no 67 (by decide))⟩
  · have sub : ∀ c ∈ [26, 27, 28, 29, 30, 31, 32, 35, 68, 69, 70, 71, 72, 73, 74, 75, 76, 77, 78, 79, 80], c ∈ [26, 27, 28, 29, 30, 31, 32, 35, 36, 61, 66, 67, 68, 69, 70, 71, 72, 73, 74, 75, 76, 77, 78, 79, 80] := by decide
    exact sub c (hl c hc)
  · rw [h 36 (no 36 (by decide))]
  · rw [h 61 (no 61 (by decide))]
theorem iAll_s {μ ν : MU} (hA : iAll μ) (h : hScr μ ν) (hF : iF ν) : iAll ν := by
  have st := h.st
  have f0 : ν 0 6 = μ 0 6 := by rw [h.1 0 (by decide)]
  obtain ⟨a1, a2, a3, a4, a5⟩ := hA
  exact ⟨iA_c st f0 (h.1 24 (by decide)) (h.1 25 (by decide)) (h.1 34 (by decide)) a1, iB_c st f0 (h.1 24 (by decide)) (h.1 34 (by decide)) (h.1 62 (by decide)) a2, hF, hRs_T h.rs (h.1 65 (by decide)) a4, hRs_S h.rs a5⟩
theorem iF_c {μ ν : MU} (h : hSt μ ν) (h1 : ν 61 5 = μ 61 5) (h2 : ν 66 = μ 66) (h3 : ν 67 = μ 67) (hF : iF μ) : iF ν := ⟨by rw [h1]; exact hF.1, fun hf => iFd_c h h2 h3 (hF.2 (by rw [← h1]; exact hf))⟩
theorem iAll_g {l : List Nat} {μ ν : MU} (hA : iAll μ) (h : gFr l μ ν) (hl : ∀ c ∈ l, c ∈ [26, 27, 28, 29, 30, 31, 32, 35, 68, 69, 70, 71, 72, 73, 74, 75, 76, 77, 78, 79, 80]) : iAll ν := by
  obtain ⟨s, h1, h2, h3⟩ := h.sc hl
  exact iAll_s hA s (iF_c s.st (by rw [h1]) h2 h3 hA.2.2.1)
theorem iM_g {l : List Nat} {μ ν : MU} (hM : iM μ) (h : gFr l μ ν) (hl : ∀ c ∈ l, c ∈ [26, 27, 28, 29, 30, 31, 32, 35, 68, 69, 70, 71, 72, 73, 74, 75, 76, 77, 78, 79, 80]) : iM ν := by
  obtain ⟨s, h1, h2, h3⟩ := h.sc hl
  exact iM_c s.st ⟨h2, h3, fun k _ _ => by rw [s.1 62 (by decide)]⟩ hM
theorem t_146A {D : Nat} (hD : 4 ≤ D) {μ : MU} {Q : GQ} (hA : iAll μ) (h : ∀ ν : MU, gFr [61, 66, 67, 68, 69, 70] μ ν → (∀ j : Int, j ≠ 5 → ν 61 j = μ 61 j) → iAll ν → iM ν → Q none g_SH ν) : gCall g_T g_F D 146 [gR 61] g_SH μ Q := by
  refine t_146 hD hA.1.1 hA.1.2.1 hA.2.1.1 hA.2.2.1 (fun ν hν h61 hf hd => ?_)
  have sc : hScr μ ν := ⟨hν.mo (by decide), by rw [hν 36 (by decide)], h61 4 (by decide)⟩
  have hA2 := iAll_s hA sc ⟨Or.inr hf, fun _ => hd⟩
  exact h ν hν h61 hA2 ⟨hA2.1.1, hA2.1.2.1, hA2.2.1.1, hd⟩
theorem iAll_K {μ : MU} (hA : iAll μ) (hl : (μ 0 6) = 1) (hM : iM μ) : iK μ (μ 24) (μ 25) := by
  have d := hA.1.2.2.2 hl
  have b := hA.2.1.2.2 hl
  exact ⟨hM, d.1, b.1, d.2.1, b.2.1⟩
theorem iAll_H {μ : MU} (hA : iAll μ) (hl : (μ 0 6) = 1) : iH μ := by
  have d := hA.1.2.2.2 hl
  exact ⟨hA.1.1, hA.1.2.1, d.1, d.2.1⟩
theorem t_44 {D : Nat} (hD : 1 ≤ D) {μ : MU} {Q : GQ} {y p : Int} (hL : iL μ) (y0 : 0 ≤ y) (y1 : y < (μ 9 1)) (hs : 0 ≤ (μ 23) y ∧ (μ 23) y ≤ 60) (p0 : 0 ≤ (μ 23) y + p) (p1 : (μ 23) y + p < 60) (h : Q (some (gI ((μ 24) ((μ 23) y + p)))) g_SH μ) : gCall g_T g_F D 44 [gR 19, gI y, gI p] g_SH μ Q := by
  have L := hL.2.2.2.1
  obtain ⟨d, rfl⟩ := gD (show 1 ≤ D by omega)
  refine gC 300 [] rfl ?_
  (conv => whnf); try simp only [gO, gWe, ne_eq, Nat.reduceEqDiff, not_false_eq_true, true_or, or_true, true_and]
  repeat' (first | exact True.intro | (refine ⟨fun hb => ?_, fun hb => ?_⟩ <;> first | (exfalso; omega; done) | exact absurd True.intro hb | ((conv => whnf); try simp only [gO, gWe, ne_eq, Nat.reduceEqDiff, not_false_eq_true, true_or, or_true, true_and])) | (refine ⟨by omega, ?_⟩; (conv => whnf); try simp only [gO, gWe, ne_eq, Nat.reduceEqDiff, not_false_eq_true, true_or, or_true, true_and]) | (refine ⟨fun hb => ?_, ?_⟩ <;> first | (exfalso; omega; done) | exact absurd True.intro hb | ((conv => whnf); try simp only [gO, gWe, ne_eq, Nat.reduceEqDiff, not_false_eq_true, true_or, or_true, true_and])) | fail)
  exact h
theorem g_div {a b : Int} (h0 : 0 ≤ a) (h1 : a < 2147483648) (h2 : 0 < b) (h3 : b < 2147483648) : gDiv a b = a / b := by
  have ha : (Int32.ofInt a).toInt = a := g_toInt ⟨by omega, h1⟩
  have hb : (Int32.ofInt b).toInt = b := g_toInt ⟨by omega, h3⟩
  show (Int32.ofInt a / Int32.ofInt b).toInt = a / b
  rw [Int32.toInt_div, ha, hb, Int.tdiv_eq_ediv_of_nonneg h0]
  have := Int.ediv_le_self b h0
  have := Int.ediv_nonneg h0 (Int.le_of_lt h2)
  exact Int.bmod_eq_of_le (by omega) (by omega)
/-- the vertex with this name -/
theorem t_38 {D : Nat} (hD : 2 ≤ D) {μ : MU} {Q : GQ} {a : Int} (ha : gOk a) (hG : iG μ) (hL : iL μ) (hN : iN μ) (k1 : ∀ v : Int, 0 ≤ v → v < (μ 19 2) → (μ 20) v = a → Q (some (gI (v))) g_SH μ) (k0 : (∀ v : Int, 0 ≤ v → v < (μ 19 2) → (μ 20) v ≠ a) → Q (some (gI (-1))) g_SH μ) : gCall g_T g_F D 38 [gR 19, gI a] g_SH μ Q := by
  have G := hG.1
  have V := hN.1
  unfold gOk at ha
  have nd : ∀ v : Int, 0 ≤ v → v < (μ 1 0) → (μ 20) v = v := fun v v0 v1 => (hN.2.2.2.1 v v0 v1).1
  by_cases h1 : a < 100
  · by_cases h2 : 0 ≤ a ∧ a < (μ 1 0)
    · have fin := k1 a h2.1 (by omega) (nd a h2.1 h2.2)
      obtain ⟨d, rfl⟩ := gD (show 1 ≤ D by omega)
      refine gC 300 [] rfl ?_
      (conv => whnf); try simp only [gO, gWe, ne_eq, Nat.reduceEqDiff, not_false_eq_true, true_or, or_true, true_and]
      repeat' (first | exact True.intro | (refine ⟨fun hb => ?_, fun hb => ?_⟩ <;> first | (exfalso; omega; done) | exact absurd True.intro hb | ((conv => whnf); try simp only [gO, gWe, ne_eq, Nat.reduceEqDiff, not_false_eq_true, true_or, or_true, true_and])) | (refine ⟨by omega, ?_⟩; (conv => whnf); try simp only [gO, gWe, ne_eq, Nat.reduceEqDiff, not_false_eq_true, true_or, or_true, true_and]) | (refine ⟨fun hb => ?_, ?_⟩ <;> first | (exfalso; omega; done) | exact absurd True.intro hb | ((conv => whnf); try simp only [gO, gWe, ne_eq, Nat.reduceEqDiff, not_false_eq_true, true_or, or_true, true_and])) | fail)
      exact fin
    · have fin := k0 (fun v v0 v1 hv => by
        rcases iN_two hG hL hN v0 v1 with ⟨a1, a2, -⟩ | ⟨a0, e, y, e0, e1, y0, y1, hv', a1, -, y2, y3⟩ <;> omega)
      obtain ⟨d, rfl⟩ := gD (show 1 ≤ D by omega)
      refine gC 300 [] rfl ?_
      (conv => whnf); try simp only [gO, gWe, ne_eq, Nat.reduceEqDiff, not_false_eq_true, true_or, or_true, true_and]
      repeat' (first | exact True.intro | (refine ⟨fun hb => ?_, fun hb => ?_⟩ <;> first | (exfalso; omega; done) | exact absurd True.intro hb | ((conv => whnf); try simp only [gO, gWe, ne_eq, Nat.reduceEqDiff, not_false_eq_true, true_or, or_true, true_and])) | (refine ⟨by omega, ?_⟩; (conv => whnf); try simp only [gO, gWe, ne_eq, Nat.reduceEqDiff, not_false_eq_true, true_or, or_true, true_and]) | (refine ⟨fun hb => ?_, ?_⟩ <;> first | (exfalso; omega; done) | exact absurd True.intro hb | ((conv => whnf); try simp only [gO, gWe, ne_eq, Nat.reduceEqDiff, not_false_eq_true, true_or, or_true, true_and])) | fail)
      · exact fin
      · exact fin
  · have hd := g_div (a := a - 100) (b := 40) (by omega) (by omega) (by omega) (by omega)
    have hr := g_rem (a := a - 100) (b := 40) (by omega) (by omega) (by omega) (by omega)
    have dm := Int.ediv_mul_le (a - 100) (show (40 : Int) ≠ 0 by omega)
    have q0 : 0 ≤ (a - 100) / 40 := by omega
    have none1 : ¬ ((a - 100) / 40 < (μ 1 1) ∧ (μ 14) ((a - 100) / 40) < a - 100 - (a - 100) / 40 * 40 ∧ a - 100 - (a - 100) / 40 * 40 < (μ 15) ((a - 100) / 40)) → Q (some (gI (-1))) g_SH μ := fun hn => k0 (fun v v0 v1 hv => by
      rcases iN_two hG hL hN v0 v1 with ⟨a1, a2, -⟩ | ⟨a0, e, y, e0, e1, y0, y1, hv', a1, -, y2, y3⟩
      · omega
      · have E := iE hG hL e0 e1
        have he : (a - 100) / 40 = e := by omega
        rw [he] at hn
        exact hn ⟨e1, by omega, by omega⟩)
    by_cases c1 : (a - 100) / 40 < (μ 1 1)
    · have E := iE hG hL q0 c1
      have fb := iN_fb hG hL hN q0 c1
      by_cases c2 : (μ 14) ((a - 100) / 40) < a - 100 - (a - 100) / 40 * 40
      · by_cases c3 : a - 100 - (a - 100) / 40 * 40 < (μ 15) ((a - 100) / 40)
        · have nm := hN.2.2.2.2.1 _ _ q0 c1 c2 c3
          have fin := k1 ((μ 22) ((a - 100) / 40) + (a - 100 - (a - 100) / 40 * 40) - (μ 14) ((a - 100) / 40) - 1) (by omega) (by omega) (by rw [nm.1]; omega)
          clear k1 k0 none1
          rw [← hr, ← hd] at fin c2 c3
          rw [← hd] at c1 E fb q0
          obtain ⟨d, rfl⟩ := gD (show 1 ≤ D by omega)
          refine gC 300 [] rfl ?_
          (conv => whnf); try simp only [gO, gWe, ne_eq, Nat.reduceEqDiff, not_false_eq_true, true_or, or_true, true_and]
          repeat' (first | exact True.intro | (refine ⟨fun hb => ?_, fun hb => ?_⟩ <;> first | (exfalso; omega; done) | exact absurd True.intro hb | ((conv => whnf); try simp only [gO, gWe, ne_eq, Nat.reduceEqDiff, not_false_eq_true, true_or, or_true, true_and])) | (refine ⟨by omega, ?_⟩; (conv => whnf); try simp only [gO, gWe, ne_eq, Nat.reduceEqDiff, not_false_eq_true, true_or, or_true, true_and]) | (refine ⟨fun hb => ?_, ?_⟩ <;> first | (exfalso; omega; done) | exact absurd True.intro hb | ((conv => whnf); try simp only [gO, gWe, ne_eq, Nat.reduceEqDiff, not_false_eq_true, true_or, or_true, true_and])) | fail)
          refine t_39 (by omega) hG hL hN (by omega) (by omega) ?_
          unfold xOn
          rw [if_neg (by omega), if_neg (by omega)]
          (conv => whnf); try simp only [gO, gWe, ne_eq, Nat.reduceEqDiff, not_false_eq_true, true_or, or_true, true_and]
          exact fin
        · have fin := none1 (fun h => c3 h.2.2)
          clear k1 k0 none1
          rw [← hr, ← hd] at c2 c3
          rw [← hd] at c1 E fb
          obtain ⟨d, rfl⟩ := gD (show 1 ≤ D by omega)
          refine gC 300 [] rfl ?_
          (conv => whnf); try simp only [gO, gWe, ne_eq, Nat.reduceEqDiff, not_false_eq_true, true_or, or_true, true_and]
          repeat' (first | exact True.intro | (refine ⟨fun hb => ?_, fun hb => ?_⟩ <;> first | (exfalso; omega; done) | exact absurd True.intro hb | ((conv => whnf); try simp only [gO, gWe, ne_eq, Nat.reduceEqDiff, not_false_eq_true, true_or, or_true, true_and])) | (refine ⟨by omega, ?_⟩; (conv => whnf); try simp only [gO, gWe, ne_eq, Nat.reduceEqDiff, not_false_eq_true, true_or, or_true, true_and]) | (refine ⟨fun hb => ?_, ?_⟩ <;> first | (exfalso; omega; done) | exact absurd True.intro hb | ((conv => whnf); try simp only [gO, gWe, ne_eq, Nat.reduceEqDiff, not_false_eq_true, true_or, or_true, true_and])) | fail)
          exact fin
      · have fin := none1 (fun h => c2 h.2.1)
        clear k1 k0 none1
        rw [← hr, ← hd] at c2
        rw [← hd] at c1 E fb
        obtain ⟨d, rfl⟩ := gD (show 1 ≤ D by omega)
        refine gC 300 [] rfl ?_
        (conv => whnf); try simp only [gO, gWe, ne_eq, Nat.reduceEqDiff, not_false_eq_true, true_or, or_true, true_and]
        repeat' (first | exact True.intro | (refine ⟨fun hb => ?_, fun hb => ?_⟩ <;> first | (exfalso; omega; done) | exact absurd True.intro hb | ((conv => whnf); try simp only [gO, gWe, ne_eq, Nat.reduceEqDiff, not_false_eq_true, true_or, or_true, true_and])) | (refine ⟨by omega, ?_⟩; (conv => whnf); try simp only [gO, gWe, ne_eq, Nat.reduceEqDiff, not_false_eq_true, true_or, or_true, true_and]) | (refine ⟨fun hb => ?_, ?_⟩ <;> first | (exfalso; omega; done) | exact absurd True.intro hb | ((conv => whnf); try simp only [gO, gWe, ne_eq, Nat.reduceEqDiff, not_false_eq_true, true_or, or_true, true_and])) | fail)
        exact fin
    · have fin := none1 (fun h => c1 h.1)
      clear k1 k0 none1
      rw [← hd] at c1
      obtain ⟨d, rfl⟩ := gD (show 1 ≤ D by omega)
      refine gC 300 [] rfl ?_
      (conv => whnf); try simp only [gO, gWe, ne_eq, Nat.reduceEqDiff, not_false_eq_true, true_or, or_true, true_and]
      repeat' (first | exact True.intro | (refine ⟨fun hb => ?_, fun hb => ?_⟩ <;> first | (exfalso; omega; done) | exact absurd True.intro hb | ((conv => whnf); try simp only [gO, gWe, ne_eq, Nat.reduceEqDiff, not_false_eq_true, true_or, or_true, true_and])) | (refine ⟨by omega, ?_⟩; (conv => whnf); try simp only [gO, gWe, ne_eq, Nat.reduceEqDiff, not_false_eq_true, true_or, or_true, true_and]) | (refine ⟨fun hb => ?_, ?_⟩ <;> first | (exfalso; omega; done) | exact absurd True.intro hb | ((conv => whnf); try simp only [gO, gWe, ne_eq, Nat.reduceEqDiff, not_false_eq_true, true_or, or_true, true_and])) | fail)
      exact fin
