variable {sN : Int} {sX : Int → Int}
/-! THE LAYERS: pushes, circles of pushes, flows -/
def uE (n m : Int) (up lo ls : Int → Int) : Prop := ∀ e : Int, 0 ≤ e → e < m → (0 ≤ up e ∧ up e < n) ∧ (0 ≤ lo e ∧ lo e < n) ∧ up e ≠ lo e ∧ 1 ≤ ls e ∧ ls e ≤ 3
def pU (up lo pb : Int → Int) (i : Int) : Int := if lo (pb i) = i then up (pb i) else lo (pb i)
def pW (lo ls pb : Int → Int) (i : Int) : Int := if lo (pb i) = i then ls (pb i) else -ls (pb i)
def gArc (m : Int) (up lo ls fl l : Int → Int) : Prop := ∀ e : Int, 0 ≤ e → e < m → l (up e) + ls e ≤ l (lo e) ∧ (0 < fl e → l (lo e) ≤ l (up e) + ls e)
/-- in the pass k, before the edge c, after T pushes; t: when a node was last pushed, ps: in which pass -/
def pA (n : Int) (k T : Int) (l pb t ps : Int → Int) : Prop := ∀ i : Int, 0 ≤ i → i < n → (0 ≤ l i ∧ l i ≤ 3 * T) ∧ (0 ≤ t i ∧ t i ≤ T) ∧ (0 ≤ ps i ∧ ps i ≤ k) ∧ (t i = 0 → pb i = -1 ∧ ps i = 0)
def pB (n m : Int) (up lo ls fl l pb t ps : Int → Int) : Prop := ∀ i : Int, 0 ≤ i → i < n → 0 < t i → (0 ≤ pb i ∧ pb i < m) ∧ (lo (pb i) = i ∨ (up (pb i) = i ∧ lo (pb i) ≠ i ∧ 0 < fl (pb i))) ∧ l i ≤ l (pU up lo pb i) + pW lo ls pb i ∧ (t i < t (pU up lo pb i) → l i < l (pU up lo pb i) + pW lo ls pb i) ∧ ps i ≤ ps (pU up lo pb i) + 1
def pD (m : Int) (up lo ls fl : Int → Int) (k c : Int) (l ps : Int → Int) : Prop := ∀ e : Int, 0 ≤ e → e < m → (l (up e) + ls e ≤ l (lo e) ∨ (if e < c then k else k - 1) ≤ ps (up e)) ∧ (0 < fl e → l (lo e) ≤ l (up e) + ls e ∨ (if e < c then k else k - 1) ≤ ps (lo e))
def pF (n m : Int) (up lo ls fl l : Int → Int) : Prop := ∀ q : Int → Int, (∀ i : Int, 0 ≤ i → i < n → 0 ≤ q i) → gArc m up lo ls fl q → ∀ i : Int, 0 ≤ i → i < n → l i ≤ q i
def pInv (n m : Int) (up lo ls fl : Int → Int) (k c T : Int) (l pb t ps : Int → Int) : Prop := pA n k T l pb t ps ∧ pB n m up lo ls fl l pb t ps ∧ (∀ i j : Int, 0 ≤ i → i < n → 0 ≤ j → j < n → t i = t j → 0 < t i → i = j) ∧ pD m up lo ls fl k c l ps ∧ pF n m up lo ls fl l
theorem pU_n {n m : Int} {up lo ls pb : Int → Int} (hE : uE n m up lo ls) {i : Int} (h0 : 0 ≤ pb i) (h1 : pb i < m) (h : lo (pb i) = i ∨ up (pb i) = i) : (0 ≤ pU up lo pb i ∧ pU up lo pb i < n) ∧ pU up lo pb i ≠ i := by
  have e := hE _ h0 h1
  unfold pU
  by_cases hc : lo (pb i) = i
  · rw [if_pos hc]; exact ⟨e.1, by omega⟩
  · rw [if_neg hc]; exact ⟨e.2.1, hc⟩
theorem pInv_0 {n m : Int} {up lo ls fl : Int → Int} : pInv n m up lo ls fl 1 0 0 (fun _ => 0) (fun _ => -1) (fun _ => 0) (fun _ => 0) := by
  refine ⟨fun i _ _ => ⟨⟨Int.le_refl _, by show (0 : Int) ≤ 3 * 0; omega⟩, ⟨Int.le_refl _, Int.le_refl _⟩, ⟨Int.le_refl _, by show (0 : Int) ≤ 1; omega⟩, fun _ => ⟨rfl, rfl⟩⟩, fun i _ _ h => by have h' : (0 : Int) < 0 := h; omega, fun i j _ _ _ _ _ h => by have h' : (0 : Int) < 0 := h; omega, fun e e0 e1 => ⟨Or.inr ?_, fun _ => Or.inr ?_⟩, fun q hq _ i i0 i1 => hq i i0 i1⟩
  · show (if e < 0 then (1 : Int) else 1 - 1) ≤ 0
    rw [if_neg (by omega)]; omega
  · show (if e < 0 then (1 : Int) else 1 - 1) ≤ 0
    rw [if_neg (by omega)]; omega
theorem pInv_n {n m : Int} {up lo ls fl : Int → Int} {k T : Int} {l pb t ps : Int → Int} (h : pInv n m up lo ls fl k m T l pb t ps) : pInv n m up lo ls fl (k + 1) 0 T l pb t ps := by
  obtain ⟨a, b, c, d, f⟩ := h
  refine ⟨fun i i0 i1 => ?_, b, c, fun e e0 e1 => ?_, f⟩
  · have := a i i0 i1
    exact ⟨this.1, this.2.1, by omega, this.2.2.2⟩
  · have := d e e0 e1
    rw [if_pos e1] at this
    rw [if_neg (by omega), show k + 1 - 1 = k by omega]
    exact this
theorem pInv_s {n m : Int} {up lo ls fl : Int → Int} {k c T : Int} {l pb t ps : Int → Int} (h : pInv n m up lo ls fl k c T l pb t ps) (h1 : l (up c) + ls c ≤ l (lo c)) (h2 : 0 < fl c → l (lo c) ≤ l (up c) + ls c) : pInv n m up lo ls fl k (c + 1) T l pb t ps := by
  obtain ⟨a, b, x, d, f⟩ := h
  refine ⟨a, b, x, fun e e0 e1 => ?_, f⟩
  by_cases hc : e = c
  · subst hc
    exact ⟨Or.inl h1, fun h => Or.inl (h2 h)⟩
  · have := d e e0 e1
    by_cases hd : e < c
    · rw [if_pos hd] at this
      rw [if_pos (by omega)]; exact this
    · rw [if_neg hd] at this
      rw [if_neg (by omega)]; exact this
theorem pInv_p {n m : Int} {up lo ls fl : Int → Int} {k c T : Int} {l pb t ps : Int → Int} (hE : uE n m up lo ls) (h : pInv n m up lo ls fl k c T l pb t ps) (k0 : 1 ≤ k) (c0 : 0 ≤ c) (c1 : c < m) {y x w : Int} (hy : (y = lo c ∧ x = up c ∧ w = ls c) ∨ (y = up c ∧ x = lo c ∧ w = -ls c ∧ 0 < fl c)) (hl : l y < l x + w) : pInv n m up lo ls fl k (c + 1) (T + 1) (gUp l y (l x + w)) (gUp pb y c) (gUp t y (T + 1)) (gUp ps y k) := by
  obtain ⟨a, b, d, e, f⟩ := h
  have ec := hE c c0 c1
  have hyx : y ≠ x := by rcases hy with ⟨h1, h2, _⟩ | ⟨h1, h2, _⟩ <;> rw [h1, h2] <;> omega
  have hy0 : 0 ≤ y ∧ y < n := by rcases hy with ⟨h1, _⟩ | ⟨h1, _⟩ <;> rw [h1] <;> omega
  have hx0 : 0 ≤ x ∧ x < n := by rcases hy with ⟨_, h1, _⟩ | ⟨_, h1, _⟩ <;> rw [h1] <;> omega
  have hw : w ≤ 3 := by rcases hy with ⟨_, _, h1⟩ | ⟨_, _, h1, _⟩ <;> rw [h1] <;> omega
  have ax := a x hx0.1 hx0.2
  have ay := a y hy0.1 hy0.2
  have px : k - 1 ≤ ps x := by
    have := e c c0 c1
    rw [if_neg (by omega)] at this
    rcases hy with ⟨h1, h2, h3⟩ | ⟨h1, h2, h3, h4⟩ <;> rw [h1, h2, h3] at hl <;> rw [h2]
    · rcases this.1 with z | z
      · omega
      · exact z
    · rcases this.2 h4 with z | z
      · omega
      · exact z
  refine ⟨fun i i0 i1 => ?_, fun i i0 i1 hi => ?_, fun i j i0 i1 j0 j1 hij hi => ?_, fun e' e0 e1 => ?_, fun q q0 qa i i0 i1 => ?_⟩
  · by_cases hc : i = y
    · rw [hc]; simp only [gUp_e]; omega
    · simp only [gUp_n hc]
      have := a i i0 i1
      omega
  · by_cases hc : i = y
    · have hpU : pU up lo (gUp pb y c) y = x ∧ pW lo ls (gUp pb y c) y = w ∧ (lo c = y ∨ (up c = y ∧ lo c ≠ y ∧ 0 < fl c)) := by
        unfold pU pW
        rw [gUp_e]
        rcases hy with ⟨h1, h2, h3⟩ | ⟨h1, h2, h3, h4⟩
        · rw [if_pos h1.symm, if_pos h1.symm]; exact ⟨h2.symm, h3.symm, Or.inl h1.symm⟩
        · have : lo c ≠ y := by omega
          rw [if_neg this, if_neg this]; exact ⟨h2.symm, h3.symm, Or.inr ⟨h1.symm, this, h4⟩⟩
      rw [hc, hpU.1, hpU.2.1]
      simp only [gUp_e, gUp_n (Ne.symm hyx)]
      exact ⟨⟨c0, c1⟩, hpU.2.2, Int.le_refl _, fun h => by omega, by omega⟩
    · have hpU : pU up lo (gUp pb y c) i = pU up lo pb i ∧ pW lo ls (gUp pb y c) i = pW lo ls pb i := by
        unfold pU pW
        rw [gUp_n hc]
        exact ⟨rfl, rfl⟩
      rw [hpU.1, hpU.2]
      simp only [gUp_n hc] at hi ⊢
      have bi := b i i0 i1 hi
      refine ⟨bi.1, bi.2.1, ?_⟩
      by_cases hd : pU up lo pb i = y
      · rw [hd] at bi ⊢
        simp only [gUp_e]
        omega
      · simp only [gUp_n hd]
        exact bi.2.2
  · have ai := a i i0 i1
    have aj := a j j0 j1
    by_cases hc : i = y <;> by_cases hd : j = y
    · omega
    · rw [hc, gUp_e, gUp_n hd] at hij; omega
    · rw [hd, gUp_e, gUp_n hc] at hij; omega
    · rw [gUp_n hc] at hij hi
      rw [gUp_n hd] at hij
      exact d i j i0 i1 j0 j1 hij hi
  · have ee := hE e' e0 e1
    have de := e e' e0 e1
    by_cases hc : e' = c
    · subst hc
      rcases hy with ⟨h1, h2, h3⟩ | ⟨h1, h2, h3, h4⟩
      · rw [← h1, ← h2, ← h3, gUp_e, gUp_n (Ne.symm hyx)]
        exact ⟨Or.inl (by omega), fun _ => Or.inl (by omega)⟩
      · rw [← h1, ← h2, gUp_e, gUp_n (Ne.symm hyx)]
        exact ⟨Or.inl (by omega), fun _ => Or.inl (by omega)⟩
    · have hk : (if e' < c + 1 then k else k - 1) = (if e' < c then k else k - 1) := by
        by_cases hd : e' < c
        · rw [if_pos hd, if_pos (by omega)]
        · rw [if_neg hd, if_neg (by omega)]
      have hk1 : (if e' < c then k else k - 1) ≤ k := by split <;> omega
      rw [hk]
      generalize (if e' < c then k else k - 1) = K at *
      by_cases h1 : up e' = y <;> by_cases h2 : lo e' = y
      · omega
      · rw [h1, gUp_e, gUp_n h2, gUp_e, gUp_n h2]
        rw [h1] at de
        exact ⟨Or.inr hk1, fun h => by
          rcases de.2 h with z | z
          · exact Or.inl (by omega)
          · exact Or.inr z⟩
      · rw [h2, gUp_e, gUp_n h1, gUp_e, gUp_n h1]
        rw [h2] at de
        exact ⟨by
          rcases de.1 with z | z
          · exact Or.inl (by omega)
          · exact Or.inr z, fun h => Or.inr hk1⟩
      · rw [gUp_n h1, gUp_n h2, gUp_n h1, gUp_n h2]
        exact de
  · by_cases hc : i = y
    · rw [hc, gUp_e]
      have f1 := f q q0 qa x hx0.1 hx0.2
      have qc := qa c c0 c1
      rcases hy with ⟨h1, h2, h3⟩ | ⟨h1, h2, h3, h4⟩
      · rw [h1, h3]
        rw [h2] at f1 ⊢
        omega
      · have := qc.2 h4
        rw [h1, h3]
        rw [h2] at f1 ⊢
        omega
    · rw [gUp_n hc]; exact f q q0 qa i i0 i1
/-! circles -/
def gIt (f : Int → Int) : Nat → Int → Int
  | 0, a => a
  | k + 1, a => f (gIt f k a)
theorem gIt_a (f : Int → Int) (a : Int) (i : Nat) : ∀ j : Nat, gIt f (j + i) a = gIt f j (gIt f i a) := by
  intro j
  induction j with
  | zero => rw [Nat.zero_add]; rfl
  | succ j ih => rw [show j + 1 + i = (j + i) + 1 by omega]; show f _ = f _; rw [ih]
theorem g_min {P : Nat → Prop} : ∀ k : Nat, P k → ∃ j, j ≤ k ∧ P j ∧ ∀ i, i < j → ¬ P i := by
  intro k
  induction k using Nat.strongRecOn with
  | ind k ih =>
    intro hk
    by_cases hc : ∃ i, i < k ∧ P i
    · obtain ⟨i, i1, i2⟩ := hc
      obtain ⟨j, j1, j2⟩ := ih i i1 i2
      exact ⟨j, by omega, j2⟩
    · exact ⟨k, Nat.le_refl _, hk, fun i i1 i2 => hc ⟨i, i1, i2⟩⟩
/-- a circle of pushes from this node on, its length, its gain -/
def cSum (w : Int → Int) (f : Int → Int) (a : Int) : Nat → Int
  | 0 => 0
  | k + 1 => cSum w f a k + w (gIt f k a)
def pCyc (n m : Int) (up lo ls fl pb : Int → Int) (a : Int) (p : Nat) : Prop := (1 ≤ p ∧ (p : Int) ≤ n) ∧ gIt (pU up lo pb) p a = a ∧ (∀ s : Nat, 1 ≤ s → s < p → gIt (pU up lo pb) s a ≠ a) ∧
  (∀ s : Nat, (0 ≤ gIt (pU up lo pb) s a ∧ gIt (pU up lo pb) s a < n) ∧ (s < p → (0 ≤ pb (gIt (pU up lo pb) s a) ∧ pb (gIt (pU up lo pb) s a) < m) ∧ (lo (pb (gIt (pU up lo pb) s a)) = gIt (pU up lo pb) s a ∨ (up (pb (gIt (pU up lo pb) s a)) = gIt (pU up lo pb) s a ∧ lo (pb (gIt (pU up lo pb) s a)) ≠ gIt (pU up lo pb) s a ∧ 0 < fl (pb (gIt (pU up lo pb) s a)))))) ∧
  0 < cSum (pW lo ls pb) (pU up lo pb) a p
/-- the chain of pushes behind a node that the last pass has pushed -/
theorem p_chain {n m : Int} {up lo ls fl : Int → Int} {k c T : Int} {l pb t ps : Int → Int} (hE : uE n m up lo ls) (h : pInv n m up lo ls fl k c T l pb t ps) {a : Int} (a0 : 0 ≤ a) (a1 : a < n) (ha : ps a = n) : ∀ j : Nat, (j : Int) ≤ n → (0 ≤ gIt (pU up lo pb) j a ∧ gIt (pU up lo pb) j a < n) ∧ n - j ≤ ps (gIt (pU up lo pb) j a) ∧ ((j : Int) < n → 0 < t (gIt (pU up lo pb) j a)) := by
  have pos : ∀ i : Int, 0 ≤ i → i < n → 0 < ps i → 0 < t i := fun i i0 i1 hi => by
    have := h.1 i i0 i1
    by_cases hc : t i = 0
    · have := this.2.2.2 hc
      omega
    · omega
  intro j
  induction j with
  | zero => intro _; exact ⟨⟨a0, a1⟩, by show n - 0 ≤ ps a; omega, fun hn => pos a a0 a1 (by omega)⟩
  | succ j ih =>
    intro hj
    have i := ih (by omega)
    have tj := i.2.2 (by omega)
    have b := h.2.1 _ i.1.1 i.1.2 tj
    have u := pU_n hE b.1.1 b.1.2 (b.2.1.elim Or.inl (fun z => Or.inr z.1))
    refine ⟨u.1, ?_, fun hn => pos _ u.1.1 u.1.2 ?_⟩
    · show n - ((j + 1 : Nat) : Int) ≤ ps (pU up lo pb (gIt (pU up lo pb) j a))
      omega
    · show 0 < ps (pU up lo pb (gIt (pU up lo pb) j a))
      omega
theorem p_cyc {n m : Int} {up lo ls fl : Int → Int} {k c T : Int} {l pb t ps : Int → Int} (hE : uE n m up lo ls) (h : pInv n m up lo ls fl k c T l pb t ps) {a : Int} (a0 : 0 ≤ a) (a1 : a < n) (ha : ps a = n) : ∃ p, pCyc n m up lo ls fl pb (gIt (pU up lo pb) n.toNat a) p := by
  have ch := p_chain hE h a0 a1 ha
  have pig : ∃ i j : Nat, i < j ∧ (j : Int) ≤ n ∧ gIt (pU up lo pb) i a = gIt (pU up lo pb) j a := by
    by_cases hc : ∃ i j : Nat, i < j ∧ (j : Int) ≤ n ∧ gIt (pU up lo pb) i a = gIt (pU up lo pb) j a
    · exact hc
    · have := g_pig n.toNat (n.toNat + 1) (fun i => (gIt (pU up lo pb) i a).toNat) (fun i hi => by have := ch i (by omega); omega) (fun i j hi hj hij => by
        have c1 := ch i (by omega)
        have c2 := ch j (by omega)
        have hij' : (gIt (pU up lo pb) i a).toNat = (gIt (pU up lo pb) j a).toNat := hij
        have e : gIt (pU up lo pb) i a = gIt (pU up lo pb) j a := by omega
        rcases Nat.lt_trichotomy i j with x | x | x
        · exact absurd ⟨i, j, x, by omega, e⟩ hc
        · exact x
        · exact absurd ⟨j, i, x, by omega, e.symm⟩ hc)
      omega
  obtain ⟨i, j, ij, jn, e⟩ := pig
  have back : gIt (pU up lo pb) n.toNat a = gIt (pU up lo pb) (n.toNat - (j - i)) a := by
    have e1 := gIt_a (pU up lo pb) a i (n.toNat - j)
    have e2 := gIt_a (pU up lo pb) a j (n.toNat - j)
    rw [show n.toNat - j + i = n.toNat - (j - i) by omega] at e1
    rw [show n.toNat - j + j = n.toNat by omega] at e2
    rw [e1, e2, e]
  have ret : gIt (pU up lo pb) (j - i) (gIt (pU up lo pb) n.toNat a) = gIt (pU up lo pb) n.toNat a := by
    have e1 := gIt_a (pU up lo pb) a (n.toNat - (j - i)) (j - i)
    rw [show (j - i) + (n.toNat - (j - i)) = n.toNat by omega] at e1
    rw [← back] at e1
    exact e1.symm
  obtain ⟨p, p1, p2, p3⟩ := g_min (P := fun p => 1 ≤ p ∧ gIt (pU up lo pb) p (gIt (pU up lo pb) n.toNat a) = gIt (pU up lo pb) n.toNat a) (j - i) ⟨by omega, ret⟩
  have posn : ∀ s : Nat, s < j - i → (0 ≤ gIt (pU up lo pb) s (gIt (pU up lo pb) n.toNat a) ∧ gIt (pU up lo pb) s (gIt (pU up lo pb) n.toNat a) < n) ∧ 0 < t (gIt (pU up lo pb) s (gIt (pU up lo pb) n.toNat a)) := by
    intro s hs
    rw [back, ← gIt_a]
    have := ch (s + (n.toNat - (j - i))) (by omega)
    exact ⟨this.1, this.2.2 (by omega)⟩
  have ds : ∀ s : Nat, s < p → (0 ≤ gIt (pU up lo pb) s (gIt (pU up lo pb) n.toNat a) ∧ gIt (pU up lo pb) s (gIt (pU up lo pb) n.toNat a) < n) ∧ 0 < t (gIt (pU up lo pb) s (gIt (pU up lo pb) n.toNat a)) := fun s hs => posn s (by omega)
  generalize gIt (pU up lo pb) n.toNat a = b at *
  have all : ∀ s : Nat, ∃ r : Nat, r < p ∧ gIt (pU up lo pb) s b = gIt (pU up lo pb) r b := by
    intro s
    induction s with
    | zero => exact ⟨0, by omega, rfl⟩
    | succ s ih =>
      obtain ⟨r, r1, r2⟩ := ih
      by_cases hc : r + 1 = p
      · refine ⟨0, by omega, ?_⟩
        show pU up lo pb (gIt (pU up lo pb) s b) = b
        rw [r2]
        have := p2.2
        rw [← hc] at this
        exact this
      · exact ⟨r + 1, by omega, by show pU up lo pb (gIt (pU up lo pb) s b) = pU up lo pb (gIt (pU up lo pb) r b); rw [r2]⟩
  refine ⟨p, ⟨p2.1, by omega⟩, p2.2, fun s s0 s1 hs => p3 s s1 ⟨s0, hs⟩, fun s => ⟨?_, fun hs => ?_⟩, ?_⟩
  · obtain ⟨r, r1, r2⟩ := all s
    rw [r2]; exact (ds r r1).1
  · have d := ds s hs
    have b' := h.2.1 _ d.1.1 d.1.2 d.2
    exact ⟨b'.1, b'.2.1⟩
  · have step : ∀ s : Nat, s ≤ p → l b ≤ l (gIt (pU up lo pb) s b) + cSum (pW lo ls pb) (pU up lo pb) b s ∧ (l b < l (gIt (pU up lo pb) s b) + cSum (pW lo ls pb) (pU up lo pb) b s ∨ ∀ r : Nat, r < s → t (gIt (pU up lo pb) (r + 1) b) ≤ t (gIt (pU up lo pb) r b)) := by
      intro s
      induction s with
      | zero => intro _; exact ⟨by show l b ≤ l b + 0; omega, Or.inr (fun r hr => by omega)⟩
      | succ s ih =>
        intro hs
        have i := ih (by omega)
        have d := ds s (by omega)
        have b' := h.2.1 _ d.1.1 d.1.2 d.2
        show l b ≤ l (pU up lo pb (gIt (pU up lo pb) s b)) + (cSum (pW lo ls pb) (pU up lo pb) b s + pW lo ls pb (gIt (pU up lo pb) s b)) ∧ (l b < l (pU up lo pb (gIt (pU up lo pb) s b)) + (cSum (pW lo ls pb) (pU up lo pb) b s + pW lo ls pb (gIt (pU up lo pb) s b)) ∨ _)
        refine ⟨by omega, ?_⟩
        rcases i.2 with z | z
        · exact Or.inl (by omega)
        · by_cases hc : t (gIt (pU up lo pb) s b) < t (pU up lo pb (gIt (pU up lo pb) s b))
          · have := b'.2.2.2.1 hc
            exact Or.inl (by omega)
          · refine Or.inr (fun r hr => ?_)
            by_cases hd : r = s
            · rw [hd]; show t (pU up lo pb (gIt (pU up lo pb) s b)) ≤ _; omega
            · exact z r (by omega)
    have fin := step p (Nat.le_refl _)
    rw [p2.2] at fin
    rcases fin.2 with z | z
    · omega
    · exfalso
      have dec : ∀ s : Nat, s + 1 ≤ p → t (gIt (pU up lo pb) (s + 1) b) ≤ t (gIt (pU up lo pb) 1 b) := by
        intro s
        induction s with
        | zero => intro _; exact Int.le_refl _
        | succ s ih => intro hs; have := ih (by omega); have := z (s + 1) (by omega); omega
      have d1 := dec (p - 1) (by omega)
      rw [show p - 1 + 1 = p by omega, p2.2] at d1
      have d2 := z 0 (by omega)
      have d3 : t (gIt (pU up lo pb) 0 b) = t b := rfl
      have d4 : gIt (pU up lo pb) 0 b = b := rfl
      have db := ds 0 (by omega)
      rw [d4] at db
      have b' := h.2.1 _ db.1.1 db.1.2 db.2
      have u := pU_n hE b'.1.1 b'.1.2 (b'.2.1.elim Or.inl (fun z => Or.inr z.1))
      have u1 : gIt (pU up lo pb) (0 + 1) b = pU up lo pb b := rfl
      rw [u1] at d2
      have u2 : gIt (pU up lo pb) 1 b = pU up lo pb b := rfl
      rw [u2] at d1
      exact u.2 (h.2.2.1 _ _ u.1.1 u.1.2 db.1.1 db.1.2 (by omega) (by omega))
/-- all nodes of a circle are different -/
theorem pCyc_d {n m : Int} {up lo ls fl pb : Int → Int} {a : Int} {p : Nat} (h : pCyc n m up lo ls fl pb a p) {i j : Nat} (ij : i < j) (jp : j < p) : gIt (pU up lo pb) i a ≠ gIt (pU up lo pb) j a := by
  intro e
  have e1 := gIt_a (pU up lo pb) a i (p - j)
  have e2 := gIt_a (pU up lo pb) a j (p - j)
  rw [show p - j + j = p by omega, h.2.1] at e2
  rw [e, ← e2] at e1
  exact h.2.2.1 (p - j + i) (by omega) (by omega) e1
/-- a circle has an edge from its lower end to its upper one -/
theorem pCyc_u {n m : Int} {up lo ls fl pb : Int → Int} {a : Int} {p : Nat} (h : pCyc n m up lo ls fl pb a p) {q : Int → Int} (hq : ∀ e : Int, 0 ≤ e → e < m → q (up e) < q (lo e)) : ∃ s : Nat, s < p ∧ up (pb (gIt (pU up lo pb) s a)) = gIt (pU up lo pb) s a ∧ lo (pb (gIt (pU up lo pb) s a)) ≠ gIt (pU up lo pb) s a := by
  by_cases hc : ∃ s : Nat, s < p ∧ up (pb (gIt (pU up lo pb) s a)) = gIt (pU up lo pb) s a ∧ lo (pb (gIt (pU up lo pb) s a)) ≠ gIt (pU up lo pb) s a
  · exact hc
  · exfalso
    have dec : ∀ s : Nat, s ≤ p → q (gIt (pU up lo pb) s a) + s ≤ q a := by
      intro s
      induction s with
      | zero => intro _; show q a + 0 ≤ q a; omega
      | succ s ih =>
        intro hs
        have i := ih (by omega)
        have c := (h.2.2.2.1 s).2 (by omega)
        have lo1 : lo (pb (gIt (pU up lo pb) s a)) = gIt (pU up lo pb) s a := by
          rcases c.2 with z | z
          · exact z
          · exact absurd ⟨s, by omega, z.1, z.2.1⟩ hc
        have qs := hq _ c.1.1 c.1.2
        have u : pU up lo pb (gIt (pU up lo pb) s a) = up (pb (gIt (pU up lo pb) s a)) := if_pos lo1
        show q (pU up lo pb (gIt (pU up lo pb) s a)) + ((s + 1 : Nat) : Int) ≤ q a
        rw [u]
        rw [lo1] at qs
        omega
    have := dec p (Nat.le_refl _)
    rw [h.2.1] at this
    have := h.1.1
    omega
