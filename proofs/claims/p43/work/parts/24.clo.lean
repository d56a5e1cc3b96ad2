variable {sN : Int} {sX : Int → Int}
/-! the groups of a layer are closed: the pure side -/
theorem g_pig : ∀ (m n : Nat) (f : Nat → Nat), (∀ i, i < n → f i < m) → (∀ i j, i < n → j < n → f i = f j → i = j) → n ≤ m := by
  intro m
  induction m with
  | zero =>
    intro n f h _
    rcases n with _ | n
    · omega
    · have := h 0 (by omega); omega
  | succ m ih =>
    intro n f h hi
    rcases n with _ | k
    · omega
    · have c0 := h k (by omega)
      have := ih k (fun i => if f i = m then f k else f i) (fun i hik => by
        by_cases hc : f i = m
        · simp only [hc, if_true]
          have : f k ≠ f i := fun e => by have := hi k i (by omega) (by omega) e; omega
          omega
        · simp only [hc, if_false]
          have := h i (by omega)
          omega) (fun i j hik hjk e => by
        have e1 : f i = f k → i = k := fun e => hi i k (by omega) (by omega) e
        have e2 : f j = f k → j = k := fun e => hi j k (by omega) (by omega) e
        by_cases hc : f i = m
        · by_cases hd : f j = m
          · exact hi i j (by omega) (by omega) (by omega)
          · simp only [hc, hd, if_true, if_false] at e
            have := e2 e.symm
            omega
        · by_cases hd : f j = m
          · simp only [hc, hd, if_true, if_false] at e
            have := e1 e
            omega
          · simp only [hc, hd, if_false] at e
            exact hi i j (by omega) (by omega) e)
      omega
theorem g_pig2 {n m : Nat} (R : Nat → Nat → Prop) (h : ∀ i, i < n → ∃ j, j < m ∧ R i j) (hi : ∀ i i' j, i < n → i' < n → R i j → R i' j → i = i') : n ≤ m := by
  have hc : ∀ i : Nat, ∃ j, i < n → j < m ∧ R i j := fun i => by
    by_cases hin : i < n
    · obtain ⟨j, hj⟩ := h i hin
      exact ⟨j, fun _ => hj⟩
    · exact ⟨0, fun h => absurd h hin⟩
  have hf := fun i => Classical.choose_spec (hc i)
  exact g_pig m n (fun i => Classical.choose (hc i)) (fun i hin => (hf i hin).1) (fun i j hin hjn e => hi i j _ hin hjn (hf i hin).2 (by
    have := (hf j hjn).2
    have e' : Classical.choose (hc i) = Classical.choose (hc j) := e
    rw [← e'] at this
    exact this))
/-- n different values out of a stretch -/
def iV (s e : Int) (sq : Int → Int) (q : Int × (Int → Int)) : Prop := 0 ≤ q.1 ∧ (∀ r : Int, 0 ≤ r → r < q.1 → ∃ k : Int, s ≤ k ∧ k < e ∧ q.2 r = sq k) ∧ ∀ r r' : Int, 0 ≤ r → r < r' → r' < q.1 → q.2 r ≠ q.2 r'
theorem iV_n {s e : Int} {sq : Int → Int} {q : Int × (Int → Int)} (hse : s ≤ e) (h : iV s e sq q) : q.1 ≤ e - s := by
  obtain ⟨h0, h1, h2⟩ := h
  have := g_pig2 (n := q.1.toNat) (m := (e - s).toNat) (fun r k => q.2 (r : Int) = sq (s + (k : Int))) (fun r hr => by
    obtain ⟨k, k0, k1, hk⟩ := h1 (r : Int) (by omega) (by omega)
    exact ⟨(k - s).toNat, by omega, by rw [show s + (((k - s).toNat : Nat) : Int) = k by omega]; exact hk⟩) (fun r r' k hr hr' e1 e2 => by
    rcases Nat.lt_trichotomy r r' with c | c | c
    · exact absurd (e1.trans e2.symm) (h2 r r' (by omega) (by omega) (by omega))
    · exact c
    · exact absurd (e2.trans e1.symm) (h2 r' r (by omega) (by omega) (by omega)))
  omega
theorem gUp_s (f : Int → Int) (i v : Int) : gUp f i v i = v := by simp [gUp]
theorem gUp_o (f : Int → Int) {i j : Int} (v : Int) (h : j ≠ i) : gUp f i v j = f j := by simp [gUp, h]
theorem iV_add {s e k : Int} {sq : Int → Int} {q : Int × (Int → Int)} (h : iV s e sq q) (k0 : s ≤ k) (k1 : k < e) (hn : ∀ r : Int, 0 ≤ r → r < q.1 → q.2 r ≠ sq k) : iV s e sq (q.1 + 1, gUp q.2 q.1 (sq k)) := by
  obtain ⟨h0, h1, h2⟩ := h
  refine ⟨?_, fun r r0 r1 => ?_, fun r r' r0 r1 r2 => ?_⟩
  · show 0 ≤ q.1 + 1; omega
  · have r1' : r < q.1 + 1 := r1
    show ∃ k', _ ∧ _ ∧ gUp q.2 q.1 (sq k) r = _
    by_cases c : r = q.1
    · subst c
      exact ⟨k, k0, k1, gUp_s _ _ _⟩
    · rw [gUp_o _ _ c]
      exact h1 r r0 (by omega)
  · have r2' : r' < q.1 + 1 := r2
    show gUp q.2 q.1 (sq k) r ≠ gUp q.2 q.1 (sq k) r'
    by_cases c : r' = q.1
    · subst c
      rw [gUp_s, gUp_o _ _ (by omega)]
      exact hn r r0 r1
    · rw [gUp_o _ _ c, gUp_o _ _ (by omega)]
      exact h2 r r' r0 r1 (by omega)
def hPut (μ : MU) (sq : Int → Int) (g i : Int) : Nat → Int × (Int → Int) → Int × (Int → Int)
  | 0, q => q
  | c + 1, q => if xGr μ (sq (i + c)) = g then ((hPut μ sq g i c q).1 + 1, gUp (hPut μ sq g i c q).2 (hPut μ sq g i c q).1 (sq (i + c))) else hPut μ sq g i c q
def hClo (μ : MU) (sq : Int → Int) (s e : Int) : Nat → (Int × (Int → Int)) × Int
  | 0 => ((0, fun _ => 0), 0)
  | c + 1 => if xGr μ (sq (s + c)) = 0 then (((hClo μ sq s e c).1.1 + 1, gUp (hClo μ sq s e c).1.2 (hClo μ sq s e c).1.1 (sq (s + c))), (hClo μ sq s e c).2)
    else if gAnd (gShr (hClo μ sq s e c).2 (xGr μ (sq (s + c)))) 1 = 0 then (hPut μ sq (xGr μ (sq (s + c))) (s + c) (e - (s + c)).toNat (hClo μ sq s e c).1, gOr (hClo μ sq s e c).2 (gShl 1 (xGr μ (sq (s + c)))))
    else hClo μ sq s e c
/-- equal groups stand together -/
def iE2 (μ : MU) (q : Int × (Int → Int)) : Prop := ∀ a b c : Int, 0 ≤ a → a < b → b < c → c < q.1 → xGr μ (q.2 a) ≠ 0 → xGr μ (q.2 a) = xGr μ (q.2 c) → xGr μ (q.2 b) = xGr μ (q.2 a)
def iMem (s e : Int) (sq : Int → Int) (q : Int × (Int → Int)) (P : Int → Prop) : Prop := ∀ k : Int, s ≤ k → k < e → ((∃ r : Int, 0 ≤ r ∧ r < q.1 ∧ q.2 r = sq k) ↔ P k)
theorem iMem_add {s e i : Int} {sq : Int → Int} {q : Int × (Int → Int)} {P P' : Int → Prop} (hinj : ∀ k k' : Int, s ≤ k → k < e → s ≤ k' → k' < e → sq k = sq k' → k = k') (h0 : 0 ≤ q.1) (hi : s ≤ i ∧ i < e) (h : iMem s e sq q P) (hP : ∀ k : Int, s ≤ k → k < e → (P' k ↔ P k ∨ k = i)) : iMem s e sq (q.1 + 1, gUp q.2 q.1 (sq i)) P' := by
  intro k k0 k1
  rw [hP k k0 k1, ← h k k0 k1]
  constructor
  · rintro ⟨r, r0, r1, hr⟩
    have r1' : r < q.1 + 1 := r1
    have hr' : gUp q.2 q.1 (sq i) r = sq k := hr
    by_cases c : r = q.1
    · subst c
      rw [gUp_s] at hr'
      exact Or.inr (hinj _ _ k0 k1 hi.1 hi.2 hr'.symm)
    · rw [gUp_o _ _ c] at hr'
      exact Or.inl ⟨r, r0, by omega, hr'⟩
  · rintro (⟨r, r0, r1, hr⟩ | hk)
    · refine ⟨r, r0, ?_, ?_⟩
      · show r < q.1 + 1; omega
      · show gUp q.2 q.1 (sq i) r = _
        rw [gUp_o _ _ (by omega)]; exact hr
    · subst hk
      refine ⟨q.1, h0, ?_, gUp_s _ _ _⟩
      show q.1 < q.1 + 1; omega
theorem hPut_i {μ : MU} {s e i g : Int} {sq : Int → Int} {P : Int → Prop} {q : Int × (Int → Int)} (hinj : ∀ k k' : Int, s ≤ k → k < e → s ≤ k' → k' < e → sq k = sq k' → k = k') (hi : s ≤ i) (hV : iV s e sq q) (hM : iMem s e sq q P) (hE : iE2 μ q) (hP : ∀ k : Int, s ≤ k → k < e → P k → xGr μ (sq k) ≠ g) : ∀ c : Nat, i + c ≤ e → iV s e sq (hPut μ sq g i c q) ∧ iMem s e sq (hPut μ sq g i c q) (fun k => P k ∨ (xGr μ (sq k) = g ∧ i ≤ k ∧ k < i + c)) ∧ iE2 μ (hPut μ sq g i c q) ∧ (∀ a b : Int, 0 ≤ a → a < b → b < (hPut μ sq g i c q).1 → xGr μ ((hPut μ sq g i c q).2 a) = g → xGr μ ((hPut μ sq g i c q).2 b) = g) := by
  intro c
  induction c with
  | zero =>
    intro _
    refine ⟨hV, fun k k0 k1 => ?_, hE, fun a b a0 a1 a2 a3 => ?_⟩
    · rw [show hPut μ sq g i 0 q = q from rfl, hM k k0 k1]
      exact ⟨Or.inl, fun h => h.elim id (fun h => by omega)⟩
    · obtain ⟨k, k0, k1, hk⟩ := hV.2.1 a a0 (show a < q.1 by have : b < q.1 := a2; omega)
      rw [show hPut μ sq g i 0 q = q from rfl, hk] at a3
      exact absurd a3 (hP k k0 k1 ((hM k k0 k1).mp ⟨a, a0, show a < q.1 by have : b < q.1 := a2; omega, hk⟩))
  | succ c ih =>
    intro hc
    obtain ⟨i1, i2, i3, i4⟩ := ih (by omega)
    by_cases hg : xGr μ (sq (i + c)) = g
    · rw [show hPut μ sq g i (c + 1) q = ((hPut μ sq g i c q).1 + 1, gUp (hPut μ sq g i c q).2 (hPut μ sq g i c q).1 (sq (i + c))) from if_pos hg]
      generalize hPut μ sq g i c q = w at i1 i2 i3 i4
      have fresh : ∀ r : Int, 0 ≤ r → r < w.1 → w.2 r ≠ sq (i + c) := fun r r0 r1 h => by
        rcases (i2 (i + c) (by omega) (by omega)).mp ⟨r, r0, r1, h⟩ with p | p
        · exact hP _ (by omega) (by omega) p hg
        · omega
      have gg : ∀ r : Int, r < w.1 → gUp w.2 w.1 (sq (i + c)) r = w.2 r := fun r h => gUp_o _ _ (by omega)
      refine ⟨iV_add i1 (by omega) (by omega) fresh, iMem_add hinj i1.1 ⟨by omega, by omega⟩ i2 (fun k k0 k1 => ?_), fun a b z a0 a1 a2 a3 a4 a5 => ?_, fun a b a0 a1 a2 a3 => ?_⟩
      · constructor
        · rintro (h | ⟨h1, h2, h3⟩)
          · exact Or.inl (Or.inl h)
          · by_cases hk : k = i + c
            · exact Or.inr hk
            · exact Or.inl (Or.inr ⟨h1, h2, by omega⟩)
        · rintro ((h | ⟨h1, h2, h3⟩) | h)
          · exact Or.inl h
          · exact Or.inr ⟨h1, h2, by omega⟩
          · subst h; exact Or.inr ⟨hg, by omega, by omega⟩
      · have a3' : z < w.1 + 1 := a3
        have a5' : xGr μ (gUp w.2 w.1 (sq (i + c)) a) = xGr μ (gUp w.2 w.1 (sq (i + c)) z) := a5
        have a4' : xGr μ (gUp w.2 w.1 (sq (i + c)) a) ≠ 0 := a4
        show xGr μ (gUp w.2 w.1 (sq (i + c)) b) = xGr μ (gUp w.2 w.1 (sq (i + c)) a)
        rw [gg b (by omega), gg a (by omega)]
        rw [gg a (by omega)] at a4' a5'
        by_cases hz : z = w.1
        · subst hz
          rw [gUp_s, hg] at a5'
          rw [a5']
          exact i4 a b a0 a1 (by omega) a5'
        · rw [gg z (by omega)] at a5'
          exact i3 a b z a0 a1 a2 (by omega) a4' a5'
      · have a2' : b < w.1 + 1 := a2
        have a3' : xGr μ (gUp w.2 w.1 (sq (i + c)) a) = g := a3
        show xGr μ (gUp w.2 w.1 (sq (i + c)) b) = g
        by_cases hz : b = w.1
        · subst hz
          rw [gUp_s]; exact hg
        · rw [gg b (by omega)]
          rw [gg a (by omega)] at a3'
          exact i4 a b a0 a1 (by omega) a3'
    · rw [show hPut μ sq g i (c + 1) q = hPut μ sq g i c q from if_neg hg]
      refine ⟨i1, fun k k0 k1 => ?_, i3, i4⟩
      rw [i2 k k0 k1]
      constructor
      · rintro (h | ⟨h1, h2, h3⟩)
        · exact Or.inl h
        · exact Or.inr ⟨h1, h2, by omega⟩
      · rintro (h | ⟨h1, h2, h3⟩)
        · exact Or.inl h
        · by_cases hk : k = i + c
          · subst hk; exact absurd h1 hg
          · exact Or.inr ⟨h1, h2, by omega⟩
theorem hClo_i {μ : MU} {s e : Int} {sq : Int → Int} (hG : iG μ) (hr : ∀ k : Int, s ≤ k → k < e → 0 ≤ sq k) (hinj : ∀ k k' : Int, s ≤ k → k < e → s ≤ k' → k' < e → sq k = sq k' → k = k') : ∀ c : Nat, s + c ≤ e → iV s e sq (hClo μ sq s e c).1 ∧ (0 ≤ (hClo μ sq s e c).2 ∧ (hClo μ sq s e c).2 < 16) ∧ (∀ g : Int, 1 ≤ g → g ≤ 3 → (gHas (hClo μ sq s e c).2 g ↔ ∃ k : Int, s ≤ k ∧ k < s + c ∧ xGr μ (sq k) = g)) ∧ iMem s e sq (hClo μ sq s e c).1 (fun k => (xGr μ (sq k) = 0 ∧ k < s + c) ∨ (xGr μ (sq k) ≠ 0 ∧ gHas (hClo μ sq s e c).2 (xGr μ (sq k)))) ∧ iE2 μ (hClo μ sq s e c).1 := by
  intro c
  induction c with
  | zero =>
    intro _
    have no : ∀ g, ¬ gHas 0 g := fun g h => by unfold gHas at h; omega
    refine ⟨⟨Int.le_refl 0, fun r r0 r1 => ?_, fun r r' r0 r1 r2 => ?_⟩, ⟨Int.le_refl 0, (by decide : (0 : Int) < 16)⟩, fun g g0 g1 => ⟨fun h => absurd h (no g), fun ⟨k, k0, k1, _⟩ => by omega⟩, fun k k0 k1 => ⟨fun ⟨r, r0, r1, _⟩ => ?_, fun h => ?_⟩, fun a b c a0 a1 a2 a3 => ?_⟩
    · have : r < 0 := r1; omega
    · have : r' < 0 := r2; omega
    · have : r < 0 := r1; omega
    · rcases h with h | h
      · have := h.2; omega
      · exact absurd h.2 (no _)
    · have : c < 0 := a3; omega
  | succ c ih =>
    intro hc
    obtain ⟨i1, i2, i3, i4, i5⟩ := ih (by omega)
    have gb := xGr_b hG (hr (s + c) (by omega) (by omega))
    have hz : ∀ k, s ≤ k → k < e → (k < s + ((c + 1 : Nat) : Int) ↔ k < s + c ∨ k = s + c) := fun k _ _ => by omega
    by_cases hg : xGr μ (sq (s + c)) = 0
    · rw [show hClo μ sq s e (c + 1) = (((hClo μ sq s e c).1.1 + 1, gUp (hClo μ sq s e c).1.2 (hClo μ sq s e c).1.1 (sq (s + c))), (hClo μ sq s e c).2) from if_pos hg]
      generalize hClo μ sq s e c = w at i1 i2 i3 i4 i5
      have fresh : ∀ r : Int, 0 ≤ r → r < w.1.1 → w.1.2 r ≠ sq (s + c) := fun r r0 r1 h => by
        rcases (i4 (s + c) (by omega) (by omega)).mp ⟨r, r0, r1, h⟩ with p | p
        · omega
        · exact p.1 hg
      have gg : ∀ r : Int, r < w.1.1 → gUp w.1.2 w.1.1 (sq (s + c)) r = w.1.2 r := fun r h => gUp_o _ _ (by omega)
      refine ⟨iV_add i1 (by omega) (by omega) fresh, i2, fun g g0 g1 => ?_, iMem_add hinj i1.1 ⟨by omega, by omega⟩ i4 (fun k k0 k1 => ?_), fun a b z a0 a1 a2 a3 a4 a5 => ?_⟩
      · rw [i3 g g0 g1]
        constructor
        · rintro ⟨k, k0, k1, hk⟩; exact ⟨k, k0, by omega, hk⟩
        · rintro ⟨k, k0, k1, hk⟩
          by_cases h : k = s + c
          · subst h; omega
          · exact ⟨k, k0, by omega, hk⟩
      · show ((xGr μ (sq k) = 0 ∧ k < s + ((c + 1 : Nat) : Int)) ∨ (xGr μ (sq k) ≠ 0 ∧ gHas w.2 (xGr μ (sq k)))) ↔ ((xGr μ (sq k) = 0 ∧ k < s + c) ∨ (xGr μ (sq k) ≠ 0 ∧ gHas w.2 (xGr μ (sq k)))) ∨ k = s + c
        constructor
        · rintro (h | h)
          · by_cases hk : k = s + c
            · exact Or.inr hk
            · exact Or.inl (Or.inl ⟨h.1, by omega⟩)
          · exact Or.inl (Or.inr h)
        · rintro ((h | h) | h)
          · exact Or.inl ⟨h.1, by omega⟩
          · exact Or.inr h
          · subst h; exact Or.inl ⟨hg, by omega⟩
      · have a3' : z < w.1.1 + 1 := a3
        have a5' : xGr μ (gUp w.1.2 w.1.1 (sq (s + c)) a) = xGr μ (gUp w.1.2 w.1.1 (sq (s + c)) z) := a5
        have a4' : xGr μ (gUp w.1.2 w.1.1 (sq (s + c)) a) ≠ 0 := a4
        show xGr μ (gUp w.1.2 w.1.1 (sq (s + c)) b) = xGr μ (gUp w.1.2 w.1.1 (sq (s + c)) a)
        rw [gg b (by omega), gg a (by omega)]
        rw [gg a (by omega)] at a4' a5'
        by_cases hz : z = w.1.1
        · subst hz
          rw [gUp_s, hg] at a5'
          exact absurd a5' a4'
        · rw [gg z (by omega)] at a5'
          exact i5 a b z a0 a1 a2 (by omega) a4' a5'
    · have bt := g_bit i2 (g := xGr μ (sq (s + c))) (by omega)
      have hs1 : ∀ g : Int, (∃ k : Int, s ≤ k ∧ k < s + ((c + 1 : Nat) : Int) ∧ xGr μ (sq k) = g) ↔ (∃ k : Int, s ≤ k ∧ k < s + c ∧ xGr μ (sq k) = g) ∨ g = xGr μ (sq (s + c)) := fun g => by
        constructor
        · rintro ⟨k, k0, k1, hk⟩
          by_cases h : k = s + c
          · subst h; exact Or.inr hk.symm
          · exact Or.inl ⟨k, k0, by omega, hk⟩
        · rintro (⟨k, k0, k1, hk⟩ | h)
          · exact ⟨k, k0, by omega, hk⟩
          · exact ⟨s + c, by omega, by omega, h.symm⟩
      by_cases hb : gAnd (gShr (hClo μ sq s e c).2 (xGr μ (sq (s + c)))) 1 = 0
      · rw [show hClo μ sq s e (c + 1) = (hPut μ sq (xGr μ (sq (s + c))) (s + c) (e - (s + c)).toNat (hClo μ sq s e c).1, gOr (hClo μ sq s e c).2 (gShl 1 (xGr μ (sq (s + c))))) from (if_neg hg).trans (if_pos hb)]
        generalize hClo μ sq s e c = w at i1 i2 i3 i4 i5 bt hb
        have nb : ¬ gHas w.2 (xGr μ (sq (s + c))) := fun h => by have := bt.2.1.mpr h; omega
        obtain ⟨j1, j2, j3, j4⟩ := hPut_i (g := xGr μ (sq (s + c))) hinj (i := s + c) (by omega) i1 i4 i5 (fun k k0 k1 hp he => by
          rcases hp with p | p
          · omega
          · rw [he] at p; exact nb p.2) (e - (s + c)).toNat (by omega)
        refine ⟨j1, bt.2.2.1, fun g g0 g1 => ?_, fun k k0 k1 => ?_, j3⟩
        · rw [bt.2.2.2 g g0 g1, i3 g g0 g1, hs1]
        · rw [j2 k k0 k1]
          have gk := xGr_b hG (hr k k0 k1)
          show ((xGr μ (sq k) = 0 ∧ k < s + c) ∨ (xGr μ (sq k) ≠ 0 ∧ gHas w.2 (xGr μ (sq k)))) ∨ (xGr μ (sq k) = xGr μ (sq (s + c)) ∧ s + c ≤ k ∧ k < s + c + ((e - (s + c)).toNat : Int)) ↔ (xGr μ (sq k) = 0 ∧ k < s + ((c + 1 : Nat) : Int)) ∨ (xGr μ (sq k) ≠ 0 ∧ gHas (gOr w.2 (gShl 1 (xGr μ (sq (s + c))))) (xGr μ (sq k)))
          constructor
          · rintro ((h | h) | h)
            · exact Or.inl ⟨h.1, by omega⟩
            · exact Or.inr ⟨h.1, (bt.2.2.2 _ (by omega) (by omega)).mpr (Or.inl h.2)⟩
            · exact Or.inr ⟨by omega, (bt.2.2.2 _ (by omega) (by omega)).mpr (Or.inr h.1)⟩
          · rintro (h | h)
            · by_cases hk : k = s + c
              · subst hk; exact absurd h.1 hg
              · exact Or.inl (Or.inl ⟨h.1, by omega⟩)
            · rcases (bt.2.2.2 _ (by omega) (by omega)).mp h.2 with p | p
              · exact Or.inl (Or.inr ⟨h.1, p⟩)
              · by_cases hk : k < s + c
                · exact absurd ((i3 (xGr μ (sq (s + c))) (by omega) (by omega)).mpr ⟨k, k0, hk, p⟩) nb
                · exact Or.inr ⟨p, by omega, by omega⟩
      · rw [show hClo μ sq s e (c + 1) = hClo μ sq s e c from (if_neg hg).trans (if_neg hb)]
        have hb1 : gHas (hClo μ sq s e c).2 (xGr μ (sq (s + c))) := bt.2.1.mp (by omega)
        refine ⟨i1, i2, fun g g0 g1 => ?_, fun k k0 k1 => ?_, i5⟩
        · rw [hs1, i3 g g0 g1]
          constructor
          · exact Or.inl
          · rintro (h | h)
            · exact h
            · rw [← i3 g g0 g1, h]; exact hb1
        · rw [i4 k k0 k1]
          constructor
          · rintro (h | h)
            · exact Or.inl ⟨h.1, by omega⟩
            · exact Or.inr h
          · rintro (h | h)
            · by_cases hk : k = s + c
              · subst hk; exact absurd h.1 hg
              · exact Or.inl ⟨h.1, by omega⟩
            · exact Or.inr h
/-- the order with the groups of a layer closed -/
def cloS (μ : MU) (sq : Int → Int) (y : Int) : Int → Int := fun k => if (μ 23) y ≤ k ∧ k < (μ 23) (y + 1) then (hClo μ sq ((μ 23) y) ((μ 23) (y + 1)) ((μ 23) (y + 1) - (μ 23) y).toNat).1.2 (k - (μ 23) y) else sq k
theorem cloS_v {μ : MU} {sq pl : Int → Int} (hG : iG μ) (hL : iL μ) (hN : iN μ) (hO : iO μ sq pl) {y : Int} (y0 : 0 ≤ y) (y1 : y < (μ 9 1)) : (hClo μ sq ((μ 23) y) ((μ 23) (y + 1)) ((μ 23) (y + 1) - (μ 23) y).toNat).1.1 = (μ 23) (y + 1) - (μ 23) y ∧ (∀ k : Int, (μ 23) y ≤ k → k < (μ 23) (y + 1) → ∃ j : Int, (μ 23) y ≤ j ∧ j < (μ 23) (y + 1) ∧ cloS μ sq y k = sq j) ∧ (∀ j : Int, (μ 23) y ≤ j → j < (μ 23) (y + 1) → ∃ k : Int, (μ 23) y ≤ k ∧ k < (μ 23) (y + 1) ∧ cloS μ sq y k = sq j) ∧ (∀ k k' : Int, (μ 23) y ≤ k → k < k' → k' < (μ 23) (y + 1) → cloS μ sq y k ≠ cloS μ sq y k') ∧ iC μ (cloS μ sq y) y := by
  have st := (iN_st hG hL hN).1 y y0 y1
  have hr : ∀ k : Int, (μ 23) y ≤ k → k < (μ 23) (y + 1) → 0 ≤ sq k := fun k k0 k1 => (hO.1 y y0 y1 k k0 k1).1.1
  have hinj : ∀ k k' : Int, (μ 23) y ≤ k → k < (μ 23) (y + 1) → (μ 23) y ≤ k' → k' < (μ 23) (y + 1) → sq k = sq k' → k = k' := fun k k' k0 k1 k2 k3 h => iO_inj hG hL hN hO (by omega) (by omega) (by omega) (by omega) h
  obtain ⟨i1, i2, i3, i4, i5⟩ := hClo_i hG hr hinj ((μ 23) (y + 1) - (μ 23) y).toNat (by omega)
  have all : ∀ k : Int, (μ 23) y ≤ k → k < (μ 23) (y + 1) → ∃ r : Int, 0 ≤ r ∧ r < (hClo μ sq ((μ 23) y) ((μ 23) (y + 1)) ((μ 23) (y + 1) - (μ 23) y).toNat).1.1 ∧ (hClo μ sq ((μ 23) y) ((μ 23) (y + 1)) ((μ 23) (y + 1) - (μ 23) y).toNat).1.2 r = sq k := fun k k0 k1 => by
    refine (i4 k k0 k1).mpr ?_
    have gk := xGr_b hG (hr k k0 k1)
    by_cases hz : xGr μ (sq k) = 0
    · exact Or.inl ⟨hz, by omega⟩
    · exact Or.inr ⟨hz, (i3 _ (by omega) (by omega)).mpr ⟨k, k0, by omega, rfl⟩⟩
  have n1 := iV_n st.2.1 i1
  have n2 : (μ 23) (y + 1) - (μ 23) y ≤ (hClo μ sq ((μ 23) y) ((μ 23) (y + 1)) ((μ 23) (y + 1) - (μ 23) y).toNat).1.1 := by
    have := g_pig2 (n := ((μ 23) (y + 1) - (μ 23) y).toNat) (m := (hClo μ sq ((μ 23) y) ((μ 23) (y + 1)) ((μ 23) (y + 1) - (μ 23) y).toNat).1.1.toNat) (fun j r => (hClo μ sq ((μ 23) y) ((μ 23) (y + 1)) ((μ 23) (y + 1) - (μ 23) y).toNat).1.2 (r : Int) = sq ((μ 23) y + (j : Int))) (fun j hj => by
      obtain ⟨r, r0, r1, hr⟩ := all ((μ 23) y + j) (by omega) (by omega)
      exact ⟨r.toNat, by omega, by rw [show ((r.toNat : Nat) : Int) = r by omega]; exact hr⟩) (fun j j' r hj hj' e1 e2 => by
      have := hinj ((μ 23) y + j) ((μ 23) y + j') (by omega) (by omega) (by omega) (by omega) (e1.symm.trans e2)
      omega)
    have := i1.1
    omega
  have hc : ∀ k : Int, (μ 23) y ≤ k → k < (μ 23) (y + 1) → cloS μ sq y k = (hClo μ sq ((μ 23) y) ((μ 23) (y + 1)) ((μ 23) (y + 1) - (μ 23) y).toNat).1.2 (k - (μ 23) y) := fun k k0 k1 => if_pos ⟨k0, k1⟩
  refine ⟨by omega, fun k k0 k1 => ?_, fun j j0 j1 => ?_, fun k k' k0 k1 k2 => ?_, fun a b c a0 a1 a2 a3 a4 a5 => ?_⟩
  · rw [hc k k0 k1]
    exact i1.2.1 _ (by omega) (by omega)
  · obtain ⟨r, r0, r1, hr⟩ := all j j0 j1
    refine ⟨(μ 23) y + r, by omega, by omega, ?_⟩
    rw [hc _ (by omega) (by omega), show (μ 23) y + r - (μ 23) y = r by omega]
    exact hr
  · rw [hc k k0 (by omega), hc k' (by omega) k2]
    exact i1.2.2 _ _ (by omega) (by omega) (by omega)
  · rw [hc a a0 (by omega)] at a4 a5 ⊢
    rw [hc c (by omega) a3] at a5
    rw [hc b (by omega) (by omega)]
    exact i5 _ _ _ (by omega) (by omega) (by omega) (by omega) a4 a5
theorem cloS_o {μ : MU} {sq : Int → Int} (hG : iG μ) (hL : iL μ) (hN : iN μ) {y z k : Int} (y0 : 0 ≤ y) (y1 : y < (μ 9 1)) (z0 : 0 ≤ z) (z1 : z < (μ 9 1)) (hz : z ≠ y) (k0 : (μ 23) z ≤ k) (k1 : k < (μ 23) (z + 1)) : cloS μ sq y k = sq k := by
  refine if_neg (fun h => ?_)
  by_cases c : z < y
  · have := iN_mon hG hL hN (y := z + 1) (z := y) (by omega) (by omega) (by omega)
    omega
  · have := iN_mon hG hL hN (y := y + 1) (z := z) (by omega) (by omega) (by omega)
    omega
theorem iO_clo {μ : MU} {sq pl pl' : Int → Int} (hG : iG μ) (hL : iL μ) (hN : iN μ) (hO : iO μ sq pl) {y : Int} (y0 : 0 ≤ y) (y1 : y < (μ 9 1)) (h1 : ∀ k : Int, (μ 23) y ≤ k → k < (μ 23) (y + 1) → pl' (cloS μ sq y k) = k - (μ 23) y) (h2 : ∀ v : Int, 0 ≤ v → v < (μ 19 2) → (μ 21) v ≠ y → pl' v = pl v) : iO μ (cloS μ sq y) pl' := by
  obtain ⟨-, c1, c2, c3, c4⟩ := cloS_v hG hL hN hO y0 y1
  have st := (iN_st hG hL hN).1 y y0 y1
  refine ⟨fun z z0 z1 k k0 k1 => ?_, fun v v0 v1 => ?_⟩
  · by_cases hz : z = y
    · subst hz
      obtain ⟨j, j0, j1, hj⟩ := c1 k k0 k1
      have := hO.1 z z0 z1 j j0 j1
      refine ⟨by rw [hj]; exact this.1, by rw [hj]; exact this.2.1, h1 k k0 k1⟩
    · rw [cloS_o hG hL hN y0 y1 z0 z1 hz k0 k1]
      have := hO.1 z z0 z1 k k0 k1
      exact ⟨this.1, this.2.1, by rw [h2 _ this.1.1 this.1.2 (by omega)]; exact this.2.2⟩
  · have vv := iO_v hG hL hN hO v0 v1
    by_cases hz : (μ 21) v = y
    · have b := vv.2.2.2
      rw [hz] at b vv
      obtain ⟨k, k0, k1, hk⟩ := c2 ((μ 23) y + pl v) (by omega) (by omega)
      have p := h1 k k0 k1
      rw [hk, b] at p
      rw [hz, p, show (μ 23) y + (k - (μ 23) y) = k by omega, hk, b]
      exact ⟨by omega, k1, rfl⟩
    · rw [h2 v v0 v1 hz, cloS_o hG hL hN y0 y1 vv.1.1 vv.1.2 hz (by omega) (by omega)]
      exact hO.2 v v0 v1
theorem iC_o {μ : MU} {sq : Int → Int} (hG : iG μ) (hL : iL μ) (hN : iN μ) {y z : Int} (y0 : 0 ≤ y) (y1 : y < (μ 9 1)) (z0 : 0 ≤ z) (z1 : z < (μ 9 1)) (hz : z ≠ y) (h : iC μ sq z) : iC μ (cloS μ sq y) z := by
  intro i j k i0 i1 i2 i3
  rw [cloS_o hG hL hN y0 y1 z0 z1 hz i0 (by omega), cloS_o hG hL hN y0 y1 z0 z1 hz (by omega) i3, cloS_o hG hL hN y0 y1 z0 z1 hz (k := j) (by omega) (by omega)]
  exact h i j k i0 i1 i2 i3
