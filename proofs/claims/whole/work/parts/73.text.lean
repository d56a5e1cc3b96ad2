/-! the cases append and clearText; texts as both read them -/
theorem hRs_S2 {μ ν : MU} (h1 : ∀ c : Nat, 39 ≤ c → c ≤ 60 → ν c = μ c) (h4 : ν 63 = μ 63) (h5 : ν 64 = μ 64) (x : iS0 μ ∧ iS1 μ) : iS0 ν ∧ iS1 ν := by
  unfold iS0 iS1 at *
  rw [h4, h5, h1 39 (by decide) (by decide), h1 40 (by decide) (by decide), h1 41 (by decide) (by decide), h1 42 (by decide) (by decide), h1 43 (by decide) (by decide), h1 44 (by decide) (by decide), h1 45 (by decide) (by decide), h1 46 (by decide) (by decide), h1 47 (by decide) (by decide), h1 48 (by decide) (by decide), h1 49 (by decide) (by decide), h1 50 (by decide) (by decide), h1 51 (by decide) (by decide), h1 52 (by decide) (by decide), h1 53 (by decide) (by decide), h1 54 (by decide) (by decide), h1 55 (by decide) (by decide), h1 56 (by decide) (by decide), h1 57 (by decide) (by decide), h1 58 (by decide) (by decide), h1 59 (by decide) (by decide), h1 60 (by decide) (by decide)]
  exact x
theorem fin_t {μ τ : MU} (hA : iAll μ) (hτ : gFr [36, 37, 61, 65, 80] μ τ) (h5 : τ 61 5 = μ 61 5) (hT : iT τ) : iAll τ := by
  have st : hSt μ τ := hτ.st (by decide)
  have f0 : τ 0 6 = μ 0 6 := by rw [hτ 0 (by decide)]
  obtain ⟨a1, a2, a3, a4, a5⟩ := hA
  exact ⟨iA_c st f0 (hτ 24 (by decide)) (hτ 25 (by decide)) (hτ 34 (by decide)) a1, iB_c st f0 (hτ 24 (by decide)) (hτ 34 (by decide)) (hτ 62 (by decide)) a2, iF_c st h5 (hτ 66 (by decide)) (hτ 67 (by decide)) a3, hT, hRs_S2 (fun c a b => hτ c (fun hc => by simp only [List.mem_cons, List.not_mem_nil, or_false] at hc; omega)) (hτ 63 (by decide)) (hτ 64 (by decide)) a5⟩
theorem t_67 {D : Nat} (hD : 1 ≤ D) {μ : MU} {Q : GQ} {a : Int} (ha : 0 ≤ a ∧ a < 65536) (hl : 0 ≤ (μ 36 1) ∧ (μ 36 1) < 100) (h : Q none g_SH (gW (gW μ 37 (μ 36 1) a) 36 1 ((μ 36 1) + 1))) : gCall g_T g_F D 67 [gR 36, gI a] g_SH μ Q := by
  obtain ⟨d, rfl⟩ := gD (show 1 ≤ D by omega)
  refine gC 300 [] rfl ?_
  (conv => whnf); try simp only [gO, gWe, ne_eq, Nat.reduceEqDiff, not_false_eq_true, true_or, or_true, true_and]
  repeat' (first | exact True.intro | (refine ⟨fun hb => ?_, fun hb => ?_⟩ <;> first | (exfalso; omega; done) | exact absurd True.intro hb | ((conv => whnf); try simp only [gO, gWe, ne_eq, Nat.reduceEqDiff, not_false_eq_true, true_or, or_true, true_and])) | (refine ⟨by omega, ?_⟩; (conv => whnf); try simp only [gO, gWe, ne_eq, Nat.reduceEqDiff, not_false_eq_true, true_or, or_true, true_and]) | (refine ⟨fun hb => ?_, ?_⟩ <;> first | (exfalso; omega; done) | exact absurd True.intro hb | ((conv => whnf); try simp only [gO, gWe, ne_eq, Nat.reduceEqDiff, not_false_eq_true, true_or, or_true, true_and])) | fail)
  exact h
theorem c_108 {D : Nat} (hD : 30 ≤ D) {μ : MU} (hA : iAll μ) {a : Int} : hCs D 108 211 [gI a] μ := by
  intro Q Q' h h'
  obtain ⟨t1, t2, t3⟩ := hA.2.2.2.1
  by_cases c1 : 32 ≤ a ∧ a ≤ 126
  · by_cases c2 : (μ 36 1) < 100
    · have f1 : gFr [36, 37] μ (gW (gW μ 37 (μ 36 1) a) 36 1 ((μ 36 1) + 1)) := (gFr.rf.W (by decide)).W (by decide)
      have f2 : gW (gW μ 37 (μ 36 1) a) 36 1 ((μ 36 1) + 1) 36 1 = (μ 36 1) + 1 := gWe _ _ _ _
      have f3 : gW (gW μ 37 (μ 36 1) a) 36 1 ((μ 36 1) + 1) 37 = gUp (μ 37) (μ 36 1) a := (gW_up : gW μ 37 (μ 36 1) a 37 = _)
      obtain ⟨d, rfl⟩ := gD (show 1 ≤ D by omega)
      refine gC 300 [] rfl ?_
      (conv => whnf); try simp only [gO, gWe, ne_eq, Nat.reduceEqDiff, not_false_eq_true, true_or, or_true, true_and]
      repeat' (first | exact True.intro | (refine ⟨fun hb => ?_, fun hb => ?_⟩ <;> first | (exfalso; omega; done) | exact absurd True.intro hb | ((conv => whnf); try simp only [gO, gWe, ne_eq, Nat.reduceEqDiff, not_false_eq_true, true_or, or_true, true_and])) | (refine ⟨by omega, ?_⟩; (conv => whnf); try simp only [gO, gWe, ne_eq, Nat.reduceEqDiff, not_false_eq_true, true_or, or_true, true_and]) | (refine ⟨fun hb => ?_, ?_⟩ <;> first | (exfalso; omega; done) | exact absurd True.intro hb | ((conv => whnf); try simp only [gO, gWe, ne_eq, Nat.reduceEqDiff, not_false_eq_true, true_or, or_true, true_and])) | fail)
      refine t_67 (by omega) (by omega) (by omega) ?_
      (conv => whnf); try simp only [gO, gWe, ne_eq, Nat.reduceEqDiff, not_false_eq_true, true_or, or_true, true_and]
      repeat' (first | exact True.intro | (refine ⟨fun hb => ?_, fun hb => ?_⟩ <;> first | (exfalso; omega; done) | exact absurd True.intro hb | ((conv => whnf); try simp only [gO, gWe, ne_eq, Nat.reduceEqDiff, not_false_eq_true, true_or, or_true, true_and])) | (refine ⟨by omega, ?_⟩; (conv => whnf); try simp only [gO, gWe, ne_eq, Nat.reduceEqDiff, not_false_eq_true, true_or, or_true, true_and]) | (refine ⟨fun hb => ?_, ?_⟩ <;> first | (exfalso; omega; done) | exact absurd True.intro hb | ((conv => whnf); try simp only [gO, gWe, ne_eq, Nat.reduceEqDiff, not_false_eq_true, true_or, or_true, true_and])) | fail)
      generalize gW (gW μ 37 (μ 36 1) a) 36 1 ((μ 36 1) + 1) = ν at *
      have z : ν 61 4 = (μ 36 1) := by rw [f1 61 (by decide)]; exact t2
      refine h _ ν ?_
      refine gC 300 [] rfl ?_
      (conv => whnf); try simp only [gO, gWe, ne_eq, Nat.reduceEqDiff, not_false_eq_true, true_or, or_true, true_and]
      repeat' (first | exact True.intro | (refine ⟨fun hb => ?_, fun hb => ?_⟩ <;> first | (exfalso; omega; done) | exact absurd True.intro hb | ((conv => whnf); try simp only [gO, gWe, ne_eq, Nat.reduceEqDiff, not_false_eq_true, true_or, or_true, true_and])) | (refine ⟨by omega, ?_⟩; (conv => whnf); try simp only [gO, gWe, ne_eq, Nat.reduceEqDiff, not_false_eq_true, true_or, or_true, true_and]) | (refine ⟨fun hb => ?_, ?_⟩ <;> first | (exfalso; omega; done) | exact absurd True.intro hb | ((conv => whnf); try simp only [gO, gWe, ne_eq, Nat.reduceEqDiff, not_false_eq_true, true_or, or_true, true_and])) | fail)
      refine t_125 (by omega) (fun _ => ?_) (fun c => absurd c1 c)
      (conv => whnf); try simp only [gO, gWe, ne_eq, Nat.reduceEqDiff, not_false_eq_true, true_or, or_true, true_and]
      repeat' (first | exact True.intro | (refine ⟨fun hb => ?_, fun hb => ?_⟩ <;> first | (exfalso; omega; done) | exact absurd True.intro hb | ((conv => whnf); try simp only [gO, gWe, ne_eq, Nat.reduceEqDiff, not_false_eq_true, true_or, or_true, true_and])) | (refine ⟨by omega, ?_⟩; (conv => whnf); try simp only [gO, gWe, ne_eq, Nat.reduceEqDiff, not_false_eq_true, true_or, or_true, true_and]) | (refine ⟨fun hb => ?_, ?_⟩ <;> first | (exfalso; omega; done) | exact absurd True.intro hb | ((conv => whnf); try simp only [gO, gWe, ne_eq, Nat.reduceEqDiff, not_false_eq_true, true_or, or_true, true_and])) | fail)
      have fτ : gFr [36, 37, 61, 65, 80] μ (gW (gW ν 65 (ν 61 4) a) 61 4 (ν 61 4 + 1)) := ((f1.mo (by decide)).W (by decide)).W (by decide)
      refine h' _ _ _ (by omega) (fin_t hA fτ ?_ ⟨?_, ?_, fun k k0 k1 => ?_⟩)
      · show gW (gW ν 65 (ν 61 4) a) 61 4 (ν 61 4 + 1) 61 5 = _
        rw [gWn _ _ _ (by omega)]
        show ν 61 5 = _
        rw [f1 61 (by decide)]
      · show 0 ≤ ν 36 1 ∧ ν 36 1 ≤ 100
        omega
      · show gW (gW ν 65 (ν 61 4) a) 61 4 (ν 61 4 + 1) 61 4 = ν 36 1
        rw [gWe]; omega
      · have k1' : k < ν 36 1 := k1
        show gW ν 65 (ν 61 4) a 65 k = ν 37 k ∧ 32 ≤ ν 37 k ∧ ν 37 k ≤ 126
        rw [f3, z]
        by_cases c : k = (μ 36 1)
        · rw [c, gWe, gUp_e]; omega
        · rw [gWn _ _ _ c, gUp_n c, f1 65 (by decide)]
          exact t3 k k0 (by omega)
    · obtain ⟨d, rfl⟩ := gD (show 1 ≤ D by omega)
      refine gC 300 [] rfl ?_
      (conv => whnf); try simp only [gO, gWe, ne_eq, Nat.reduceEqDiff, not_false_eq_true, true_or, or_true, true_and]
      repeat' (first | exact True.intro | (refine ⟨fun hb => ?_, fun hb => ?_⟩ <;> first | (exfalso; omega; done) | exact absurd True.intro hb | ((conv => whnf); try simp only [gO, gWe, ne_eq, Nat.reduceEqDiff, not_false_eq_true, true_or, or_true, true_and])) | (refine ⟨by omega, ?_⟩; (conv => whnf); try simp only [gO, gWe, ne_eq, Nat.reduceEqDiff, not_false_eq_true, true_or, or_true, true_and]) | (refine ⟨fun hb => ?_, ?_⟩ <;> first | (exfalso; omega; done) | exact absurd True.intro hb | ((conv => whnf); try simp only [gO, gWe, ne_eq, Nat.reduceEqDiff, not_false_eq_true, true_or, or_true, true_and])) | fail)
      refine h _ μ ?_
      refine gC 300 [] rfl ?_
      (conv => whnf); try simp only [gO, gWe, ne_eq, Nat.reduceEqDiff, not_false_eq_true, true_or, or_true, true_and]
      repeat' (first | exact True.intro | (refine ⟨fun hb => ?_, fun hb => ?_⟩ <;> first | (exfalso; omega; done) | exact absurd True.intro hb | ((conv => whnf); try simp only [gO, gWe, ne_eq, Nat.reduceEqDiff, not_false_eq_true, true_or, or_true, true_and])) | (refine ⟨by omega, ?_⟩; (conv => whnf); try simp only [gO, gWe, ne_eq, Nat.reduceEqDiff, not_false_eq_true, true_or, or_true, true_and]) | (refine ⟨fun hb => ?_, ?_⟩ <;> first | (exfalso; omega; done) | exact absurd True.intro hb | ((conv => whnf); try simp only [gO, gWe, ne_eq, Nat.reduceEqDiff, not_false_eq_true, true_or, or_true, true_and])) | fail)
      refine t_125 (by omega) (fun _ => ?_) (fun c => absurd c1 c)
      (conv => whnf); try simp only [gO, gWe, ne_eq, Nat.reduceEqDiff, not_false_eq_true, true_or, or_true, true_and]
      repeat' (first | exact True.intro | (refine ⟨fun hb => ?_, fun hb => ?_⟩ <;> first | (exfalso; omega; done) | exact absurd True.intro hb | ((conv => whnf); try simp only [gO, gWe, ne_eq, Nat.reduceEqDiff, not_false_eq_true, true_or, or_true, true_and])) | (refine ⟨by omega, ?_⟩; (conv => whnf); try simp only [gO, gWe, ne_eq, Nat.reduceEqDiff, not_false_eq_true, true_or, or_true, true_and]) | (refine ⟨fun hb => ?_, ?_⟩ <;> first | (exfalso; omega; done) | exact absurd True.intro hb | ((conv => whnf); try simp only [gO, gWe, ne_eq, Nat.reduceEqDiff, not_false_eq_true, true_or, or_true, true_and])) | fail)
      exact h' _ _ μ rfl hA
  · have bad : ∀ (D : Nat) (hD : 20 ≤ D) (Q : GQ), Q (some (gI (-1))) g_SH μ → gCall g_T g_F D 211 [gR 61, gI a] g_SH μ Q := by
      intro D hD Q k
      obtain ⟨d, rfl⟩ := gD (show 1 ≤ D by omega)
      refine gC 300 [] rfl ?_
      (conv => whnf); try simp only [gO, gWe, ne_eq, Nat.reduceEqDiff, not_false_eq_true, true_or, or_true, true_and]
      repeat' (first | exact True.intro | (refine ⟨fun hb => ?_, fun hb => ?_⟩ <;> first | (exfalso; omega; done) | exact absurd True.intro hb | ((conv => whnf); try simp only [gO, gWe, ne_eq, Nat.reduceEqDiff, not_false_eq_true, true_or, or_true, true_and])) | (refine ⟨by omega, ?_⟩; (conv => whnf); try simp only [gO, gWe, ne_eq, Nat.reduceEqDiff, not_false_eq_true, true_or, or_true, true_and]) | (refine ⟨fun hb => ?_, ?_⟩ <;> first | (exfalso; omega; done) | exact absurd True.intro hb | ((conv => whnf); try simp only [gO, gWe, ne_eq, Nat.reduceEqDiff, not_false_eq_true, true_or, or_true, true_and])) | fail)
      refine t_125 (by omega) (fun c => absurd c c1) (fun _ => ?_)
      (conv => whnf); try simp only [gO, gWe, ne_eq, Nat.reduceEqDiff, not_false_eq_true, true_or, or_true, true_and]
      repeat' (first | exact True.intro | (refine ⟨fun hb => ?_, fun hb => ?_⟩ <;> first | (exfalso; omega; done) | exact absurd True.intro hb | ((conv => whnf); try simp only [gO, gWe, ne_eq, Nat.reduceEqDiff, not_false_eq_true, true_or, or_true, true_and])) | (refine ⟨by omega, ?_⟩; (conv => whnf); try simp only [gO, gWe, ne_eq, Nat.reduceEqDiff, not_false_eq_true, true_or, or_true, true_and]) | (refine ⟨fun hb => ?_, ?_⟩ <;> first | (exfalso; omega; done) | exact absurd True.intro hb | ((conv => whnf); try simp only [gO, gWe, ne_eq, Nat.reduceEqDiff, not_false_eq_true, true_or, or_true, true_and])) | fail)
      exact k
    obtain ⟨d, rfl⟩ := gD (show 1 ≤ D by omega)
    refine gC 300 [] rfl ?_
    (conv => whnf); try simp only [gO, gWe, ne_eq, Nat.reduceEqDiff, not_false_eq_true, true_or, or_true, true_and]
    repeat' (first | exact True.intro | (refine ⟨fun hb => ?_, fun hb => ?_⟩ <;> first | (exfalso; omega; done) | exact absurd True.intro hb | ((conv => whnf); try simp only [gO, gWe, ne_eq, Nat.reduceEqDiff, not_false_eq_true, true_or, or_true, true_and])) | (refine ⟨by omega, ?_⟩; (conv => whnf); try simp only [gO, gWe, ne_eq, Nat.reduceEqDiff, not_false_eq_true, true_or, or_true, true_and]) | (refine ⟨fun hb => ?_, ?_⟩ <;> first | (exfalso; omega; done) | exact absurd True.intro hb | ((conv => whnf); try simp only [gO, gWe, ne_eq, Nat.reduceEqDiff, not_false_eq_true, true_or, or_true, true_and])) | fail)
    · exact h _ μ (bad _ (by omega) _ (h' _ _ μ rfl hA))
    · exact h _ μ (bad _ (by omega) _ (h' _ _ μ rfl hA))
theorem c_109 {D : Nat} (hD : 30 ≤ D) {μ : MU} (hA : iAll μ) : hCs D 109 212 [] μ := by
  intro Q Q' h h'
  obtain ⟨t1, t2, t3⟩ := hA.2.2.2.1
  obtain ⟨d, rfl⟩ := gD (show 1 ≤ D by omega)
  refine gC 300 [] rfl ?_
  (conv => whnf); try simp only [gO, gWe, ne_eq, Nat.reduceEqDiff, not_false_eq_true, true_or, or_true, true_and]
  repeat' (first | exact True.intro | (refine ⟨fun hb => ?_, fun hb => ?_⟩ <;> first | (exfalso; omega; done) | exact absurd True.intro hb | ((conv => whnf); try simp only [gO, gWe, ne_eq, Nat.reduceEqDiff, not_false_eq_true, true_or, or_true, true_and])) | (refine ⟨by omega, ?_⟩; (conv => whnf); try simp only [gO, gWe, ne_eq, Nat.reduceEqDiff, not_false_eq_true, true_or, or_true, true_and]) | (refine ⟨fun hb => ?_, ?_⟩ <;> first | (exfalso; omega; done) | exact absurd True.intro hb | ((conv => whnf); try simp only [gO, gWe, ne_eq, Nat.reduceEqDiff, not_false_eq_true, true_or, or_true, true_and])) | fail)
  refine h _ (gW μ 36 1 0) ?_
  refine gC 300 [] rfl ?_
  (conv => whnf); try simp only [gO, gWe, ne_eq, Nat.reduceEqDiff, not_false_eq_true, true_or, or_true, true_and]
  repeat' (first | exact True.intro | (refine ⟨fun hb => ?_, fun hb => ?_⟩ <;> first | (exfalso; omega; done) | exact absurd True.intro hb | ((conv => whnf); try simp only [gO, gWe, ne_eq, Nat.reduceEqDiff, not_false_eq_true, true_or, or_true, true_and])) | (refine ⟨by omega, ?_⟩; (conv => whnf); try simp only [gO, gWe, ne_eq, Nat.reduceEqDiff, not_false_eq_true, true_or, or_true, true_and]) | (refine ⟨fun hb => ?_, ?_⟩ <;> first | (exfalso; omega; done) | exact absurd True.intro hb | ((conv => whnf); try simp only [gO, gWe, ne_eq, Nat.reduceEqDiff, not_false_eq_true, true_or, or_true, true_and])) | fail)
  have fτ : gFr [36, 37, 61, 65, 80] μ (gW (gW μ 36 1 0) 61 4 0) := (gFr.rf.W (by decide)).W (by decide)
  refine h' _ _ _ t2 (fin_t hA fτ ?_ ⟨?_, ?_, fun k k0 k1 => ?_⟩)
  · rw [gWn _ _ _ (by omega)]; rfl
  · show 0 ≤ gW μ 36 1 0 36 1 ∧ gW μ 36 1 0 36 1 ≤ 100
    rw [gWe]; omega
  · show gW (gW μ 36 1 0) 61 4 0 61 4 = gW μ 36 1 0 36 1
    rw [gWe, gWe]
  · have k1' : k < gW μ 36 1 0 36 1 := k1
    rw [gWe] at k1'
    omega
/-- a text, sign by sign -/
def pHr (tx : Int → Int) (ln p : Int) : Int := if p < ln then tx p else 0
def pNum (hr : Int → Int) (n b p : Int) : Int × Int :=
  if 48 ≤ hr p ∧ hr p ≤ 57 then
    (if 48 < hr p ∧ 48 ≤ hr (p + 1) ∧ hr (p + 1) ≤ 57 then (if 10 * (hr p - 48) + (hr (p + 1) - 48) < n ∧ 10 * (hr p - 48) + (hr (p + 1) - 48) ≠ b then (10 * (hr p - 48) + (hr (p + 1) - 48), p + 2) else (-1, p))
      else (if hr p - 48 < n ∧ hr p - 48 ≠ b then (hr p - 48, p + 1) else (-1, p)))
  else (-1, p)
def pOpt (hr : Int → Int) (sg lo hi ot p : Int) : Int × Int :=
  if hr p = sg then (if lo ≤ hr (p + 1) - 48 ∧ hr (p + 1) - 48 ≤ hi then (hr (p + 1) - 48, p + 2) else (-1, p + 1)) else (ot, p)
