variable {sN : Int} {sX : Int → Int}
/-! better layers, set by set -/
theorem gSum_0 {f : Int → Int} (n : Nat) (h : ∀ i : Int, 0 ≤ i → i < n → f i = 0) : gSum f n = 0 := by
  have := gSum_b (f := f) (a := 0) (b := 0) n (fun i i0 i1 => by rw [h i i0 i1]; omega)
  omega
def cOk (m : Int) (up lo ls l X : Int → Int) : Prop := ∀ e : Int, 0 ≤ e → e < m → X (up e) ≤ X (lo e) ∨ l (lo e) - l (up e) ≠ ls e
def cCh (m : Int) (up lo X : Int → Int) : Int := gSum (fun e => X (lo e) - X (up e)) m.toNat
def c01 (X : Int → Int) : Prop := ∀ i : Int, X i = 0 ∨ X i = 1
def cLe (m : Int) (up lo ls l : Int → Int) : Prop := ∀ e : Int, 0 ≤ e → e < m → l (up e) + ls e ≤ l (lo e)
theorem cOk_f {m : Int} {up lo ls l X : Int → Int} (hl : cLe m up lo ls l) (hX : c01 X) : cOk m up lo ls l X ↔ ∀ e : Int, 0 ≤ e → e < m → l (up e) + X (up e) + ls e ≤ l (lo e) + X (lo e) := by
  refine ⟨fun h e e0 e1 => ?_, fun h e e0 e1 => ?_⟩
  · have a := hl e e0 e1
    have b := hX (up e)
    have c := hX (lo e)
    have d := h e e0 e1
    omega
  · have a := h e e0 e1
    by_cases hc : X (up e) ≤ X (lo e)
    · exact Or.inl hc
    · exact Or.inr (by omega)
theorem cCh_t {m : Int} {up lo l X : Int → Int} : gTot m up lo (fun i => l i + X i) = gTot m up lo l + cCh m up lo X := by
  unfold gTot cCh
  rw [← gSum_a]
  exact gSum_c _ (fun e _ _ => by show (l (lo e) + X (lo e)) - (l (up e) + X (up e)) = _; omega)
theorem cCh_c {n m : Int} {up lo ls X Y : Int → Int} (hE : uE n m up lo ls) (h : ∀ i : Int, 0 ≤ i → i < n → X i = Y i) : cCh m up lo X = cCh m up lo Y := gSum_c _ (fun e e0 e1 => by
  have ee := hE e e0 (by omega)
  show X (lo e) - X (up e) = Y (lo e) - Y (up e)
  rw [h _ ee.1.1 ee.1.2, h _ ee.2.1.1 ee.2.1.2])
theorem cOk_c {n m : Int} {up lo ls l X Y : Int → Int} (hE : uE n m up lo ls) (h : ∀ i : Int, 0 ≤ i → i < n → X i = Y i) (hX : cOk m up lo ls l X) : cOk m up lo ls l Y := fun e e0 e1 => by
  have ee := hE e e0 e1
  rw [← h _ ee.1.1 ee.1.2, ← h _ ee.2.1.1 ee.2.1.2]
  exact hX e e0 e1
theorem cCh_0 {n m : Int} {up lo ls X : Int → Int} (hE : uE n m up lo ls) (h : ∀ i : Int, 0 ≤ i → i < n → X i = 0) : cCh m up lo X = 0 := gSum_0 _ (fun e e0 e1 => by
  have ee := hE e e0 (by omega)
  show X (lo e) - X (up e) = 0
  rw [h _ ee.1.1 ee.1.2, h _ ee.2.1.1 ee.2.1.2]; omega)
theorem cCh_b {m : Int} {up lo X : Int → Int} (m0 : 0 ≤ m) (m1 : m ≤ 20) (hX : c01 X) : -20 ≤ cCh m up lo X ∧ cCh m up lo X ≤ 20 := by
  have := gSum_b (f := fun e => X (lo e) - X (up e)) (a := -1) (b := 1) m.toNat (fun e _ _ => by
    have a := hX (lo e)
    have b := hX (up e)
    show -1 ≤ X (lo e) - X (up e) ∧ X (lo e) - X (up e) ≤ 1
    omega)
  unfold cCh
  omega
theorem c_ne {n m : Int} {up lo ls X : Int → Int} (hE : uE n m up lo ls) (hX : c01 X) (h : cCh m up lo X < 0) : ∃ i : Int, 0 ≤ i ∧ i < n ∧ X i = 1 := by
  by_cases hc : ∃ i : Int, 0 ≤ i ∧ i < n ∧ X i = 1
  · exact hc
  · have := cCh_0 hE (X := X) (fun i i0 i1 => by
      rcases hX i with z | z
      · exact z
      · exact absurd ⟨i, i0, i1, z⟩ hc)
    omega
/-- a best set -/
def cB (m : Int) (up lo ls l : Int → Int) (best : Int) (X : Int → Int) : Prop := c01 X ∧ cOk m up lo ls l X ∧ cCh m up lo X = best
def cMin (n m : Int) (up lo ls l : Int → Int) (best : Int) : Prop := ∀ X : Int → Int, c01 X → (∃ i : Int, 0 ≤ i ∧ i < n ∧ X i = 1) → cOk m up lo ls l X → best ≤ cCh m up lo X
theorem cB_min {n m best : Int} {up lo ls l A B : Int → Int} (hE : uE n m up lo ls) (hl : cLe m up lo ls l) (hb : best < 0) (hm : cMin n m up lo ls l best) (hA : cB m up lo ls l best A) (hB : cB m up lo ls l best B) : cB m up lo ls l best (fun i => min (A i) (B i)) := by
  obtain ⟨a1, a2, a3⟩ := hA
  obtain ⟨b1, b2, b3⟩ := hB
  have x1 : c01 (fun i => min (A i) (B i)) := fun i => by
    have := a1 i
    have := b1 i
    show min (A i) (B i) = 0 ∨ min (A i) (B i) = 1
    omega
  have y1 : c01 (fun i => max (A i) (B i)) := fun i => by
    have := a1 i
    have := b1 i
    show max (A i) (B i) = 0 ∨ max (A i) (B i) = 1
    omega
  have x2 : cOk m up lo ls l (fun i => min (A i) (B i)) := (cOk_f hl x1).mpr (fun e e0 e1 => by
    have p := (cOk_f hl a1).mp a2 e e0 e1
    have q := (cOk_f hl b1).mp b2 e e0 e1
    show l (up e) + min (A (up e)) (B (up e)) + ls e ≤ l (lo e) + min (A (lo e)) (B (lo e))
    omega)
  have y2 : cOk m up lo ls l (fun i => max (A i) (B i)) := (cOk_f hl y1).mpr (fun e e0 e1 => by
    have p := (cOk_f hl a1).mp a2 e e0 e1
    have q := (cOk_f hl b1).mp b2 e e0 e1
    show l (up e) + max (A (up e)) (B (up e)) + ls e ≤ l (lo e) + max (A (lo e)) (B (lo e))
    omega)
  have s : cCh m up lo (fun i => min (A i) (B i)) + cCh m up lo (fun i => max (A i) (B i)) = cCh m up lo A + cCh m up lo B := by
    unfold cCh
    rw [← gSum_a, ← gSum_a]
    exact gSum_c _ (fun e _ _ => by
      show (min (A (lo e)) (B (lo e)) - min (A (up e)) (B (up e))) + (max (A (lo e)) (B (lo e)) - max (A (up e)) (B (up e))) = (A (lo e) - A (up e)) + (B (lo e) - B (up e))
      omega)
  obtain ⟨i, i0, i1, i2⟩ := c_ne hE a1 (by omega)
  have ymin := hm _ y1 ⟨i, i0, i1, by have := b1 i; show max (A i) (B i) = 1; omega⟩ y2
  have xmin := hm _ x1 (c_ne hE x1 (by omega)) x2
  exact ⟨x1, x2, by omega⟩
/-- what is in all best sets is a best set -/
theorem cB_all {n m best : Int} {up lo ls l c : Int → Int} (n0 : 0 ≤ n) (n1 : n ≤ 12) (hE : uE n m up lo ls) (hl : cLe m up lo ls l) (hb : best < 0) (hm : cMin n m up lo ls l best) (hx : ∃ S : Int, 1 ≤ S ∧ S < ((2 ^ n.toNat : Nat) : Int) ∧ cB m up lo ls l best (hX S)) (hc : ∀ i : Int, 0 ≤ i → i < n → (c i = 1 ↔ ∀ S : Int, 1 ≤ S → S < ((2 ^ n.toNat : Nat) : Int) → cB m up lo ls l best (hX S) → hX S i = 1)) (h01 : c01 c) : cB m up lo ls l best c := by
  have key : ∀ k : Nat, (∀ S : Int, 1 ≤ S → S < k → ¬ cB m up lo ls l best (hX S)) ∨ ∃ X : Int → Int, cB m up lo ls l best X ∧ ∀ i : Int, X i = 1 ↔ ∀ S : Int, 1 ≤ S → S < k → cB m up lo ls l best (hX S) → hX S i = 1 := by
    intro k
    induction k with
    | zero => exact Or.inl (fun S s0 s1 => by omega)
    | succ k ih =>
      by_cases hk : 1 ≤ (k : Int) ∧ cB m up lo ls l best (hX k)
      · refine Or.inr ?_
        rcases ih with z | ⟨X, z1, z2⟩
        · refine ⟨hX k, hk.2, fun i => ⟨fun hi S s0 s1 hS => ?_, fun h => h k hk.1 (by omega) hk.2⟩⟩
          by_cases hd : S = k
          · rw [hd]; exact hi
          · exact absurd hS (z S s0 (by omega))
        · refine ⟨_, cB_min hE hl hb hm z1 hk.2, fun i => ?_⟩
          have x1 := z1.1 i
          have x2 := hk.2.1 i
          show min (X i) (hX k i) = 1 ↔ _
          refine ⟨fun hi S s0 s1 hS => ?_, fun h => ?_⟩
          · by_cases hd : S = k
            · rw [hd]; omega
            · exact (z2 i).mp (by omega) S s0 (by omega) hS
          · have a := (z2 i).mpr (fun S s0 s1 hS => h S s0 (by omega) hS)
            have b := h k hk.1 (by omega) hk.2
            omega
      · rcases ih with z | ⟨X, z1, z2⟩
        · refine Or.inl (fun S s0 s1 hS => ?_)
          by_cases hd : S = k
          · rw [hd] at hS s0; exact hk ⟨s0, hS⟩
          · exact z S s0 (by omega) hS
        · refine Or.inr ⟨X, z1, fun i => ⟨fun hi S s0 s1 hS => ?_, fun h => (z2 i).mpr (fun S s0 s1 hS => h S s0 (by omega) hS)⟩⟩
          by_cases hd : S = k
          · rw [hd] at hS s0; exact absurd ⟨s0, hS⟩ hk
          · exact (z2 i).mp hi S s0 (by omega) hS
  obtain ⟨S, s0, s1, s2⟩ := hx
  rcases key (2 ^ n.toNat) with z | ⟨X, z1, z2⟩
  · exact absurd s2 (z S s0 s1)
  · have e : ∀ i : Int, 0 ≤ i → i < n → X i = c i := fun i i0 i1 => by
      have a := (z2 i).trans (hc i i0 i1).symm
      have b := z1.1 i
      have d := h01 i
      by_cases h : X i = 1
      · have := a.mp h
        omega
      · have : c i ≠ 1 := fun hh => h (a.mpr hh)
        omega
    exact ⟨h01, cOk_c hE e z1.2.1, by rw [← cCh_c hE e]; exact z1.2.2⟩
/-- a best set stays below the lowest of the best layers -/
theorem cB_cut {n m best : Int} {up lo ls l p A : Int → Int} (hE : uE n m up lo ls) (hl : cLe m up lo ls l) (hb : best < 0) (hm : cMin n m up lo ls l best) (hp : gLow n m up lo ls p) (hlp : ∀ i : Int, 0 ≤ i → i < n → l i ≤ p i) (hA : cB m up lo ls l best A) : cB m up lo ls l best (fun i => if l i < p i then A i else 0) := by
  obtain ⟨a1, a2, a3⟩ := hA
  have x1 : c01 (fun i => if l i < p i then A i else 0) := fun i => by
    have := a1 i
    show (if l i < p i then A i else 0) = 0 ∨ (if l i < p i then A i else 0) = 1
    split <;> omega
  have x2 : cOk m up lo ls l (fun i => if l i < p i then A i else 0) := (cOk_f hl x1).mpr (fun e e0 e1 => by
    have ee := hE e e0 e1
    have q := (cOk_f hl a1).mp a2 e e0 e1
    have r := hl e e0 e1
    have s := hp.1.2 e e0 e1
    have b1 := a1 (up e)
    have b2 := a1 (lo e)
    have c1 := hlp _ ee.1.1 ee.1.2
    have c2 := hlp _ ee.2.1.1 ee.2.1.2
    show l (up e) + (if l (up e) < p (up e) then A (up e) else 0) + ls e ≤ l (lo e) + (if l (lo e) < p (lo e) then A (lo e) else 0)
    by_cases h1 : l (up e) < p (up e)
    · rw [if_pos h1]
      by_cases h2 : l (lo e) < p (lo e)
      · rw [if_pos h2]; exact q
      · rw [if_neg h2]; omega
    · rw [if_neg h1]
      by_cases h2 : l (lo e) < p (lo e)
      · rw [if_pos h2]; omega
      · rw [if_neg h2]; omega)
  have fea : gFea n m up lo ls (fun i => p i + (if l i < p i then 0 else A i)) := by
    refine ⟨fun i i0 i1 => ?_, fun e e0 e1 => ?_⟩
    · have := hp.1.1 i i0 i1
      have := a1 i
      show 0 ≤ p i + (if l i < p i then 0 else A i)
      split <;> omega
    · have ee := hE e e0 e1
      have q := (cOk_f hl a1).mp a2 e e0 e1
      have s := hp.1.2 e e0 e1
      have b1 := a1 (up e)
      have b2 := a1 (lo e)
      have c1 := hlp _ ee.1.1 ee.1.2
      have c2 := hlp _ ee.2.1.1 ee.2.1.2
      show p (up e) + (if l (up e) < p (up e) then 0 else A (up e)) + ls e ≤ p (lo e) + (if l (lo e) < p (lo e) then 0 else A (lo e))
      by_cases h1 : l (up e) < p (up e)
      · rw [if_pos h1]
        by_cases h2 : l (lo e) < p (lo e)
        · rw [if_pos h2]; omega
        · rw [if_neg h2]; omega
      · rw [if_neg h1]
        by_cases h2 : l (lo e) < p (lo e)
        · rw [if_pos h2]; omega
        · rw [if_neg h2]; omega
  have t := hp.2.1 _ fea
  rw [cCh_t] at t
  have s : cCh m up lo (fun i => if l i < p i then A i else 0) + cCh m up lo (fun i => if l i < p i then 0 else A i) = cCh m up lo A := by
    unfold cCh
    rw [← gSum_a]
    exact gSum_c _ (fun e _ _ => by
      show ((if l (lo e) < p (lo e) then A (lo e) else 0) - (if l (up e) < p (up e) then A (up e) else 0)) + ((if l (lo e) < p (lo e) then 0 else A (lo e)) - (if l (up e) < p (up e) then 0 else A (up e))) = A (lo e) - A (up e)
      split <;> split <;> omega)
  have xmin := hm _ x1 (c_ne hE x1 (by omega)) x2
  exact ⟨x1, x2, by omega⟩
theorem g_max {f : Int → Int} {n : Int} (hn : 1 ≤ n) : ∃ i : Int, 0 ≤ i ∧ i < n ∧ ∀ j : Int, 0 ≤ j → j < n → f j ≤ f i := by
  have key : ∀ k : Nat, 1 ≤ k → ∃ i : Int, 0 ≤ i ∧ i < k ∧ ∀ j : Int, 0 ≤ j → j < k → f j ≤ f i := by
    intro k
    induction k with
    | zero => intro h; omega
    | succ k ih =>
      intro _
      by_cases hk : 1 ≤ k
      · obtain ⟨i, i0, i1, i2⟩ := ih hk
        by_cases hc : f i < f k
        · refine ⟨k, by omega, by omega, fun j j0 j1 => ?_⟩
          by_cases hd : j = k
          · rw [hd]; exact Int.le_refl _
          · have := i2 j j0 (by omega)
            omega
        · refine ⟨i, i0, by omega, fun j j0 j1 => ?_⟩
          by_cases hd : j = k
          · rw [hd]; omega
          · exact i2 j j0 (by omega)
      · exact ⟨0, by omega, by omega, fun j j0 j1 => by rw [show j = 0 by omega]; exact Int.le_refl _⟩
  obtain ⟨i, i0, i1, i2⟩ := key n.toNat (by omega)
  exact ⟨i, i0, by omega, fun j j0 j1 => i2 j j0 (by omega)⟩
/-- where no set is better, the layers are the lowest of the best ones -/
theorem c_loc {n m : Int} {up lo ls l p : Int → Int} (hE : uE n m up lo ls) (hl : cLe m up lo ls l) (hl0 : ∀ i : Int, 0 ≤ i → i < n → 0 ≤ l i) (hm : cMin n m up lo ls l 0) (hp : gLow n m up lo ls p) (hlp : ∀ i : Int, 0 ≤ i → i < n → l i ≤ p i) : ∀ i : Int, 0 ≤ i → i < n → l i = p i := by
  intro i0 h0 h1
  by_cases hc : l i0 = p i0
  · exact hc
  · exfalso
    obtain ⟨x, x0, x1, xm⟩ := g_max (f := fun i => p i - l i) (n := n) (by omega)
    have big := xm i0 h0 h1
    have lp0 := hlp i0 h0 h1
    have xm' : ∀ j : Int, 0 ≤ j → j < n → p j - l j ≤ p x - l x := xm
    have big' : p i0 - l i0 ≤ p x - l x := big
    have a1 : c01 (fun i => if p i - l i = p x - l x then 1 else 0) := fun i => by
      show (if p i - l i = p x - l x then (1 : Int) else 0) = 0 ∨ (if p i - l i = p x - l x then (1 : Int) else 0) = 1
      split <;> omega
    have hx : (if p x - l x = p x - l x then (1 : Int) else 0) = 1 := if_pos rfl
    have a2 : cOk m up lo ls l (fun i => if p i - l i = p x - l x then 1 else 0) := (cOk_f hl a1).mpr (fun e e0 e1 => by
      have ee := hE e e0 e1
      have r := hl e e0 e1
      have s := hp.1.2 e e0 e1
      have c1 := xm' _ ee.1.1 ee.1.2
      have c2 := xm' _ ee.2.1.1 ee.2.1.2
      show l (up e) + (if p (up e) - l (up e) = p x - l x then 1 else 0) + ls e ≤ l (lo e) + (if p (lo e) - l (lo e) = p x - l x then 1 else 0)
      split <;> split <;> omega)
    have a3 := hm _ a1 ⟨x, x0, x1, hx⟩ a2
    have fea : gFea n m up lo ls (fun i => p i + (fun i => -(if p i - l i = p x - l x then (1 : Int) else 0)) i) := by
      refine ⟨fun i i0 i1 => ?_, fun e e0 e1 => ?_⟩
      · have := hp.1.1 i i0 i1
        have := hl0 i i0 i1
        show 0 ≤ p i + -(if p i - l i = p x - l x then (1 : Int) else 0)
        split <;> omega
      · have ee := hE e e0 e1
        have r := hl e e0 e1
        have s := hp.1.2 e e0 e1
        have c1 := xm' _ ee.1.1 ee.1.2
        have c2 := xm' _ ee.2.1.1 ee.2.1.2
        show p (up e) + -(if p (up e) - l (up e) = p x - l x then (1 : Int) else 0) + ls e ≤ p (lo e) + -(if p (lo e) - l (lo e) = p x - l x then (1 : Int) else 0)
        split <;> split <;> omega
    have s : cCh m up lo (fun i => if p i - l i = p x - l x then 1 else 0) + cCh m up lo (fun i => -(if p i - l i = p x - l x then (1 : Int) else 0)) = 0 := by
      unfold cCh
      rw [← gSum_a]
      exact gSum_0 _ (fun e _ _ => by
        show ((if p (lo e) - l (lo e) = p x - l x then (1 : Int) else 0) - (if p (up e) - l (up e) = p x - l x then (1 : Int) else 0)) + (-(if p (lo e) - l (lo e) = p x - l x then (1 : Int) else 0) - -(if p (up e) - l (up e) = p x - l x then (1 : Int) else 0)) = 0
        omega)
    have t := hp.2.2 _ fea (by rw [cCh_t]; omega) x x0 x1
    have t' : p x ≤ p x + -(if p x - l x = p x - l x then (1 : Int) else 0) := t
    rw [hx] at t'
    omega
/-- one step -/
theorem c_step {n m best : Int} {up lo ls l p c : Int → Int} (n0 : 0 ≤ n) (n1 : n ≤ 12) (hE : uE n m up lo ls) (hl : cLe m up lo ls l) (hb : best < 0) (hm : cMin n m up lo ls l best) (hp : gLow n m up lo ls p) (hlp : ∀ i : Int, 0 ≤ i → i < n → l i ≤ p i) (hx : ∃ S : Int, 1 ≤ S ∧ S < ((2 ^ n.toNat : Nat) : Int) ∧ cB m up lo ls l best (hX S)) (hc : ∀ i : Int, 0 ≤ i → i < n → (c i = 1 ↔ ∀ S : Int, 1 ≤ S → S < ((2 ^ n.toNat : Nat) : Int) → cB m up lo ls l best (hX S) → hX S i = 1)) (h01 : c01 c) : cLe m up lo ls (fun i => l i + c i) ∧ (∀ i : Int, 0 ≤ i → i < n → l i + c i ≤ p i) ∧ gTot m up lo (fun i => l i + c i) + 1 ≤ gTot m up lo l := by
  have hB := cB_all n0 n1 hE hl hb hm hx hc h01
  refine ⟨fun e e0 e1 => (cOk_f hl hB.1).mp hB.2.1 e e0 e1, fun i i0 i1 => ?_, ?_⟩
  · have a := hlp i i0 i1
    have b := h01 i
    by_cases hd : l i < p i
    · omega
    · obtain ⟨S, s0, s1, s2⟩ := hx
      have z := cB_cut hE hl hb hm hp hlp s2
      obtain ⟨T, t0, t1, -, t2⟩ := b_num n0 n1 _ z.1 (c_ne hE z.1 (by rw [z.2.2]; exact hb))
      have zT : cB m up lo ls l best (hX T) := ⟨hX_01 T, cOk_c hE (fun i i0 i1 => (t2 i i0 i1).symm) z.2.1, by rw [cCh_c hE t2]; exact z.2.2⟩
      by_cases hci : c i = 1
      · have y := (hc i i0 i1).mp hci T t0 t1 zT
        have w := t2 i i0 i1
        rw [y] at w
        have w' : (1 : Int) = if l i < p i then hX S i else 0 := w
        rw [if_neg hd] at w'
        omega
      · omega
  · rw [cCh_t, hB.2.2]; omega
/-! the lowest layers that are possible -/
def cRo (n m : Int) (up lo ls p l : Int → Int) (r c : Int) : Prop := (∀ i : Int, 0 ≤ i → i < n → 0 ≤ l i ∧ l i ≤ p i) ∧ (∀ e : Int, 0 ≤ e → e < m → hRk n p (p (lo e)) ≤ r → l (up e) + ls e ≤ l (lo e)) ∧ ∀ e : Int, 0 ≤ e → e < c → hRk n p (p (lo e)) ≤ r + 1 → l (up e) + ls e ≤ l (lo e)
theorem cRo_r {n m : Int} {up lo ls p : Int → Int} (hE : uE n m up lo ls) (hp : gLow n m up lo ls p) {e : Int} (e0 : 0 ≤ e) (e1 : e < m) : hRk n p (p (up e)) + 1 ≤ hRk n p (p (lo e)) := by
  have ee := hE e e0 e1
  have := hp.1.2 e e0 e1
  exact hRk_l ee.1.1 ee.1.2 (Int.le_refl _) (by omega)
theorem cRo_0 {n m : Int} {up lo ls p l : Int → Int} (hE : uE n m up lo ls) (hp : gLow n m up lo ls p) (h : ∀ i : Int, 0 ≤ i → i < n → l i = 0) : cRo n m up lo ls p l 0 0 := by
  refine ⟨fun i i0 i1 => by rw [h i i0 i1]; exact ⟨Int.le_refl _, hp.1.1 i i0 i1⟩, fun e e0 e1 he => ?_, fun e e0 e1 => by omega⟩
  have ee := hE e e0 e1
  have a := cRo_r hE hp e0 e1
  have b := hRk_b (n := n) (p := p) (y := p (up e)) (by omega)
  omega
theorem cRo_n {n m : Int} {up lo ls p l : Int → Int} {r : Int} (h : cRo n m up lo ls p l r m) : cRo n m up lo ls p l (r + 1) 0 := ⟨h.1, h.2.2, fun e e0 e1 => by omega⟩
theorem cRo_s {n m : Int} {up lo ls p l : Int → Int} {r c : Int} (hE : uE n m up lo ls) (hp : gLow n m up lo ls p) (c0 : 0 ≤ c) (c1 : c < m) (h : cRo n m up lo ls p l r c) : cRo n m up lo ls p (gUp l (lo c) (if l (lo c) < l (up c) + ls c then l (up c) + ls c else l (lo c))) r (c + 1) := by
  obtain ⟨h1, h2, h3⟩ := h
  have ec := hE c c0 c1
  have pc := hp.1.2 c c0 c1
  by_cases hc : l (lo c) < l (up c) + ls c
  · rw [if_pos hc]
    have hr : r + 1 ≤ hRk n p (p (lo c)) := by
      by_cases hd : hRk n p (p (lo c)) ≤ r
      · have := h2 c c0 c1 hd
        omega
      · omega
    have up_ne : ∀ e : Int, 0 ≤ e → e < m → hRk n p (p (lo e)) ≤ r + 1 → up e ≠ lo c := fun e e0 e1 he hu => by
      have := cRo_r hE hp e0 e1
      rw [hu] at this
      omega
    refine ⟨fun i i0 i1 => ?_, fun e e0 e1 he => ?_, fun e e0 e1 he => ?_⟩
    · by_cases hd : i = lo c
      · have a := h1 _ ec.1.1 ec.1.2
        rw [hd, gUp_e]; omega
      · rw [gUp_n hd]; exact h1 i i0 i1
    · have hd : lo e ≠ lo c := fun hd => by rw [hd] at he; omega
      rw [gUp_n hd, gUp_n (up_ne e e0 e1 (by omega))]
      exact h2 e e0 e1 he
    · rw [gUp_n (up_ne e e0 (by omega) he)]
      by_cases hq : e = c
      · rw [hq, gUp_e]; exact Int.le_refl _
      · have a := h3 e e0 (by omega) he
        by_cases hd : lo e = lo c
        · rw [hd, gUp_e]; rw [hd] at a; omega
        · rw [gUp_n hd]; exact a
  · rw [if_neg hc]
    have id : gUp l (lo c) (l (lo c)) = l := by
      funext i
      by_cases hd : i = lo c
      · rw [hd, gUp_e]
      · rw [gUp_n hd]
    rw [id]
    refine ⟨h1, h2, fun e e0 e1 he => ?_⟩
    by_cases hq : e = c
    · rw [hq]; omega
    · exact h3 e e0 (by omega) he
theorem cRo_e {n m : Int} {up lo ls p l : Int → Int} (n0 : 0 ≤ n) (h : cRo n m up lo ls p l n 0) : cLe m up lo ls l := fun e e0 e1 => h.2.1 e e0 e1 (hRk_b n0).2
