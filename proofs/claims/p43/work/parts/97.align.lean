variable {sN : Int} {sX : Int → Int}
/-! aligned: at the middle one, or at the neighbor -/
def kA (a : Int → Int) (x : Int) (n : Nat) : Int := gSum (fun j => if a j ≤ x then 1 else 0) n
theorem insA_o {x : Int} : ∀ (k : Nat) (a : Int → Int) (j : Int), (k : Int) < j → insA x k a j = a j := by
  intro k
  induction k with
  | zero => intro a j h; exact gUp_n (by omega)
  | succ k ih =>
    intro a j h
    unfold insA
    split
    · rw [ih _ j (by omega), gUp_n (by omega)]
    · exact gUp_n (by omega)
theorem kA_c {a b : Int → Int} {x : Int} {n : Nat} (h : ∀ j : Int, 0 ≤ j → j < n → a j = b j) : kA a x n = kA b x n := gSum_c _ (fun i i0 i1 => by rw [h i i0 i1])
theorem kA_s {a : Int → Int} {x : Int} {n : Nat} : kA a x (n + 1) = kA a x n + (if a n ≤ x then 1 else 0) := rfl
theorem insA_k {z x : Int} : ∀ (k : Nat) (a : Int → Int), kA (insA z k a) x (k + 1) = kA a x k + (if z ≤ x then 1 else 0) := by
  intro k
  induction k with
  | zero =>
    intro a
    rw [kA_s]
    show _ + (if gUp a 0 z ((0 : Nat) : Int) ≤ x then (1 : Int) else 0) = _
    rw [show ((0 : Nat) : Int) = 0 from rfl, gUp_e]
    rfl
  | succ k ih =>
    intro a
    unfold insA
    by_cases c : z < a k
    · rw [if_pos c, kA_s, ih, insA_o k _ _ (by omega), show ((k + 1 : Nat) : Int) = (k : Int) + 1 by omega, gUp_e, kA_s (a := a), kA_c (b := a) (n := k) (fun j j0 j1 => gUp_n (by omega))]
      omega
    · rw [if_neg c, kA_s, show ((k + 1 : Nat) : Int) = (k : Int) + 1 by omega, gUp_e, kA_c (b := a) (n := k + 1) (fun j j0 j1 => gUp_n (by omega))]
theorem insA_u {z B : Int} (hz : z ≤ B) : ∀ (k : Nat) (a : Int → Int), (∀ j : Int, 0 ≤ j → j < k → a j ≤ B) → ∀ j : Int, 0 ≤ j → j ≤ k → insA z k a j ≤ B := by
  intro k
  induction k with
  | zero =>
    intro a _ j j0 j1
    have : j = 0 := by omega
    subst this
    show gUp a 0 z 0 ≤ B
    rw [gUp_e]
    exact hz
  | succ k ih =>
    intro a h j j0 j1
    unfold insA
    split
    · by_cases d : j = (k : Int) + 1
      · subst d
        rw [insA_o k _ _ (by omega), gUp_e]
        exact h k (by omega) (by omega)
      · exact ih _ (fun i i0 i1 => by rw [gUp_n (by omega)]; exact h i i0 (by omega)) j j0 (by omega)
    · by_cases d : j = (k : Int) + 1
      · subst d
        rw [gUp_e]
        exact hz
      · rw [gUp_n d]
        exact h j j0 (by omega)
theorem insA_s {z : Int} : ∀ (k : Nat) (a : Int → Int), (∀ i j : Int, 0 ≤ i → i ≤ j → j < k → a i ≤ a j) → ∀ i j : Int, 0 ≤ i → i ≤ j → j ≤ k → insA z k a i ≤ insA z k a j := by
  intro k
  induction k with
  | zero =>
    intro a _ i j i0 ij j1
    have : i = j := by omega
    rw [this]
    exact Int.le_refl _
  | succ k ih =>
    intro a h i j i0 ij j1
    unfold insA
    by_cases c : z < a k
    · rw [if_pos c]
      by_cases d : j = (k : Int) + 1
      · subst d
        by_cases e : i = (k : Int) + 1
        · subst e
          exact Int.le_refl _
        · rw [insA_o k _ ((k : Int) + 1) (by omega), gUp_e]
          exact insA_u (Int.le_of_lt c) k _ (fun m m0 m1 => by rw [gUp_n (by omega)]; exact h m k m0 (by omega) (by omega)) i i0 (by omega)
      · exact ih _ (fun m m' m0 mm m1 => by rw [gUp_n (by omega), gUp_n (by omega)]; exact h m m' m0 mm (by omega)) i j i0 ij (by omega)
    · rw [if_neg c]
      by_cases d : j = (k : Int) + 1
      · subst d
        by_cases e : i = (k : Int) + 1
        · subst e
          exact Int.le_refl _
        · rw [gUp_e, gUp_n e]
          have a1 := h i k i0 (by omega) (by omega)
          omega
      · rw [gUp_n d, gUp_n (by omega)]
        exact h i j i0 ij (by omega)
noncomputable def xBl (μ : MU) (l : Int → Int) (y v x : Int) (n : Nat) : Int := gSum (fun e => if (((μ 14) e < y ∧ y ≤ (μ 15) e) ∧ xOn μ e y = v) ∧ l (xOn μ e (y - 1)) ≤ x then 1 else 0) n
theorem dF_k {μ : MU} {l : Int → Int} {v y : Int} : ∀ n : Nat, (dF μ l v y n).1 = xMa μ y v n ∧ (∀ i j : Int, 0 ≤ i → i ≤ j → j < (dF μ l v y n).1 → (dF μ l v y n).2 i ≤ (dF μ l v y n).2 j) ∧ ∀ x : Int, kA (dF μ l v y n).2 x (dF μ l v y n).1.toNat = xBl μ l y v x n := by
  intro n
  induction n with
  | zero => exact ⟨rfl, fun i j i0 ij j1 => absurd j1 (by show ¬ j < 0; omega), fun x => rfl⟩
  | succ n ih =>
    obtain ⟨i1, i2, i3⟩ := ih
    have m0 := xMa_b (μ := μ) (y := y) (v := v) n
    have s1 : xMa μ y v (n + 1) = xMa μ y v n + (if ((μ 14) n < y ∧ y ≤ (μ 15) n) ∧ xOn μ n y = v then 1 else 0) := rfl
    have s2 : ∀ x, xBl μ l y v x (n + 1) = xBl μ l y v x n + (if (((μ 14) n < y ∧ y ≤ (μ 15) n) ∧ xOn μ n y = v) ∧ l (xOn μ n (y - 1)) ≤ x then 1 else 0) := fun x => rfl
    have s3 : dF μ l v y (n + 1) = if ((μ 14) n ≤ y - 1 ∧ y - 1 < (μ 15) n) ∧ xOn μ n y = v then ((dF μ l v y n).1 + 1, insA (l (xOn μ n (y - 1))) (dF μ l v y n).1.toNat (dF μ l v y n).2) else dF μ l v y n := rfl
    rw [s1, s3]
    generalize dF μ l v y n = q at *
    by_cases c : ((μ 14) n < y ∧ y ≤ (μ 15) n) ∧ xOn μ n y = v
    · rw [if_pos c, if_pos ⟨⟨by omega, by omega⟩, c.2⟩]
      have e : ((q.1.toNat : Nat) : Int) = q.1 := by omega
      refine ⟨by show q.1 + 1 = _; omega, fun i j i0 ij j1 => ?_, fun x => ?_⟩
      · have j1' : j < q.1 + 1 := j1
        exact insA_s q.1.toNat q.2 (fun m m' m0 mm m1 => i2 m m' m0 mm (by omega)) i j i0 ij (by omega)
      · show kA (insA (l (xOn μ n (y - 1))) q.1.toNat q.2) x (q.1 + 1).toNat = _
        rw [show (q.1 + 1).toNat = q.1.toNat + 1 by omega, insA_k, i3 x, s2 x]
        by_cases d : l (xOn μ n (y - 1)) ≤ x
        · rw [if_pos d, if_pos ⟨c, d⟩]
        · rw [if_neg d, if_neg (fun q => d q.2)]
    · rw [if_neg c, if_neg (fun d => c ⟨by omega, d.2⟩), Int.add_zero]
      exact ⟨i1, i2, fun x => by rw [i3 x, s2 x, if_neg (fun q => c q.1), Int.add_zero]⟩
theorem kA_l {a : Int → Int} {x m : Int} {n : Nat} (m0 : 0 ≤ m) (m1 : m < n) (h : ∀ j : Int, 0 ≤ j → j ≤ m → a j ≤ x) : m + 1 ≤ kA a x n := by
  have a1 := gSum_m (f := fun j => if a j ≤ x then 1 else 0) (n := n) (fun i _ _ => by split <;> omega) n (m + 1).toNat (by omega) (Nat.le_refl _)
  have a2 : gSum (fun j => if a j ≤ x then (1 : Int) else 0) (m + 1).toNat = gSum (fun _ => 1) (m + 1).toNat := gSum_c _ (fun i i0 i1 => if_pos (h i i0 (by omega)))
  have a3 := gSum_b (f := fun _ => 1) (a := 1) (b := 1) (m + 1).toNat (fun _ _ _ => ⟨Int.le_refl _, Int.le_refl _⟩)
  unfold kA
  omega
/-- half of the upper ends are not to the right of the wish -/
theorem dsr_k {μ : MU} {l : Int → Int} {v y x : Int} (hx : dsr μ l v y ≤ x) : xMa μ y v (μ 1 1).toNat ≤ 2 * xBl μ l y v x (μ 1 1).toNat := by
  obtain ⟨i1, i2, i3⟩ := dF_k (μ := μ) (l := l) (v := v) (y := y) (μ 1 1).toNat
  have m0 := xMa_b (μ := μ) (y := y) (v := v) (μ 1 1).toNat
  unfold dsr at hx
  rw [← i1, ← i3 x]
  by_cases c : (dF μ l v y (μ 1 1).toNat).1 = 0
  · rw [c]
    have : kA (dF μ l v y (μ 1 1).toNat).2 x (0 : Int).toNat = 0 := rfl
    omega
  · rw [if_neg c] at hx
    have k := kA_l (a := (dF μ l v y (μ 1 1).toNat).2) (x := x) (m := ((dF μ l v y (μ 1 1).toNat).1 - 1) / 2) (n := (dF μ l v y (μ 1 1).toNat).1.toNat) (by omega) (by omega) (fun j j0 j1 => Int.le_trans (i2 j _ j0 j1 (by omega)) hx)
    omega
/-- a layer that is aligned -/
def okY (μ : MU) (sq f : Int → Int) (y : Int) : Prop := (∀ k : Int, (μ 23) y ≤ k → k + 1 < (μ 23) (y + 1) → f (sq k) + xWd μ (sq k) + 1 ≤ f (sq (k + 1))) ∧ ∀ k : Int, (μ 23) y ≤ k → k < (μ 23) (y + 1) → xMa μ y (sq k) (μ 1 1).toNat ≤ 2 * xBl μ f y (sq k) (f (sq k)) (μ 1 1).toNat ∨ (k + 1 < (μ 23) (y + 1) ∧ f (sq (k + 1)) = f (sq k) + xWd μ (sq k) + 1)
theorem xBl_c {μ : MU} {f g : Int → Int} {y v x : Int} (hG : iG μ) (hL : iL μ) (hN : iN μ) (h : ∀ u : Int, 0 ≤ u → u < (μ 19 2) → (μ 21) u = y - 1 → f u = g u) : xBl μ f y v x (μ 1 1).toNat = xBl μ g y v x (μ 1 1).toNat := gSum_c _ (fun e e0 e1 => by
  have G := hG.1
  by_cases c : (μ 14) e < y ∧ y ≤ (μ 15) e
  · have o := xOn_v hG hL hN e0 (show e < (μ 1 1) by omega) (y := y - 1) (by omega) (by omega)
    rw [h _ o.1.1 o.1.2 o.2.1]
  · rw [if_neg (fun q => c q.1.1), if_neg (fun q => c q.1.1)])
theorem okY_c {μ : MU} {sq pl f g : Int → Int} {y : Int} (hG : iG μ) (hL : iL μ) (hN : iN μ) (hO : iO μ sq pl) (y0 : 0 ≤ y) (y1 : y < (μ 9 1)) (h : ∀ u : Int, 0 ≤ u → u < (μ 19 2) → ((μ 21) u = y - 1 ∨ (μ 21) u = y) → f u = g u) (x : okY μ sq f y) : okY μ sq g y := by
  have st := (iN_st hG hL hN).1 y y0 y1
  have e : ∀ k : Int, (μ 23) y ≤ k → k < (μ 23) (y + 1) → f (sq k) = g (sq k) := fun k k0 k1 => by
    have o := hO.1 y y0 y1 k k0 k1
    exact h _ o.1.1 o.1.2 (Or.inr o.2.1)
  refine ⟨fun k k0 k1 => ?_, fun k k0 k1 => ?_⟩
  · rw [← e k k0 (by omega), ← e (k + 1) (by omega) k1]
    exact x.1 k k0 k1
  · have q := x.2 k k0 k1
    rw [xBl_c (g := g) hG hL hN (fun u u0 u1 u2 => h u u0 u1 (Or.inl u2)), e k k0 k1] at q
    rcases q with q | ⟨q1, q2⟩
    · exact Or.inl q
    · exact Or.inr ⟨q1, by rw [← e (k + 1) (by omega) q1]; exact q2⟩
theorem alK_f {μ : MU} {sq pl l : Int → Int} {y : Int} (hG : iG μ) (hL : iL μ) (hN : iN μ) (hO : iO μ sq pl) (y0 : 0 ≤ y) (y1 : y < (μ 9 1)) : ∀ j : Nat, (j : Int) ≤ (μ 23) (y + 1) - (μ 23) y → (∀ u : Int, (∀ i : Nat, i < j → u ≠ sq ((μ 23) (y + 1) - 1 - i)) → alK μ sq l y j u = l u) ∧ ∀ i : Nat, i < j → alK μ sq l y j (sq ((μ 23) (y + 1) - 1 - i)) = max (l (sq ((μ 23) (y + 1) - 1 - i))) (min (dsr μ (alK μ sq l y i) (sq ((μ 23) (y + 1) - 1 - i)) y) ((if i = 0 then 1073741824 else alK μ sq l y j (sq ((μ 23) (y + 1) - 1 - i + 1)) - 1) - xWd μ (sq ((μ 23) (y + 1) - 1 - i)))) := by
  have st := (iN_st hG hL hN).1 y y0 y1
  have inj : ∀ i i' : Int, 0 ≤ i → i < (μ 23) (y + 1) - (μ 23) y → 0 ≤ i' → i' < (μ 23) (y + 1) - (μ 23) y → sq ((μ 23) (y + 1) - 1 - i) = sq ((μ 23) (y + 1) - 1 - i') → i = i' := fun i i' a1 a2 b1 b2 h => by
    have := iO_inj hG hL hN hO (show 0 ≤ (μ 23) (y + 1) - 1 - i by omega) (by omega) (show 0 ≤ (μ 23) (y + 1) - 1 - i' by omega) (by omega) h
    omega
  intro j
  induction j with
  | zero => intro _; exact ⟨fun u _ => rfl, fun i hi => by omega⟩
  | succ j ih =>
    intro hj
    obtain ⟨h1, h2⟩ := ih (by omega)
    have hvj : alK μ sq l y j (sq ((μ 23) (y + 1) - 1 - j)) = l (sq ((μ 23) (y + 1) - 1 - j)) := h1 _ (fun i hi e => by have := inj j i (by omega) (by omega) (by omega) (by omega) e; omega)
    refine ⟨fun u hu => ?_, fun i hi => ?_⟩
    · rw [alK_s, gUp_n (hu j (by omega))]
      exact h1 u (fun i hi => hu i (by omega))
    · by_cases c : i = j
      · subst c
        by_cases d : i = 0
        · rw [if_pos d, alK_s, gUp_e, if_pos d, hvj]
        · have e : alK μ sq l y (i + 1) (sq ((μ 23) (y + 1) - 1 - i + 1)) = alK μ sq l y i (sq ((μ 23) (y + 1) - 1 - i + 1)) := by
            rw [alK_s, gUp_n]
            intro e
            rw [show (μ 23) (y + 1) - 1 - (i : Int) + 1 = (μ 23) (y + 1) - 1 - ((i : Int) - 1) by omega] at e
            have := inj ((i : Int) - 1) i (by omega) (by omega) (by omega) (by omega) e
            omega
          rw [if_neg d, e, alK_s, gUp_e, if_neg d, hvj]
      · have hi' : i < j := by omega
        have e1 : alK μ sq l y (j + 1) (sq ((μ 23) (y + 1) - 1 - i)) = alK μ sq l y j (sq ((μ 23) (y + 1) - 1 - i)) := by
          rw [alK_s, gUp_n]
          intro e
          have := inj i j (by omega) (by omega) (by omega) (by omega) e
          omega
        rw [e1, h2 i hi']
        by_cases d : i = 0
        · rw [if_pos d, if_pos d]
        · have e : alK μ sq l y (j + 1) (sq ((μ 23) (y + 1) - 1 - i + 1)) = alK μ sq l y j (sq ((μ 23) (y + 1) - 1 - i + 1)) := by
            rw [alK_s, gUp_n]
            intro e
            rw [show (μ 23) (y + 1) - 1 - (i : Int) + 1 = (μ 23) (y + 1) - 1 - ((i : Int) - 1) by omega] at e
            have := inj ((i : Int) - 1) j (by omega) (by omega) (by omega) (by omega) e
            omega
          rw [if_neg d, if_neg d, e]
theorem alK_ok {μ : MU} {sq pl l : Int → Int} {y : Int} (hG : iG μ) (hL : iL μ) (hN : iN μ) (hO : iO μ sq pl) (hl : hLb μ l) (y0 : 1 ≤ y) (y1 : y < (μ 9 1)) (hx : ∀ k : Int, (μ 23) y ≤ k → k + 1 < (μ 23) (y + 1) → l (sq k) + xWd μ (sq k) + 1 ≤ l (sq (k + 1))) : okY μ sq (alK μ sq l y ((μ 23) (y + 1) - (μ 23) y).toNat) y ∧ ∀ u : Int, 0 ≤ u → u < (μ 19 2) → (μ 21) u ≠ y → ∀ j : Nat, (j : Int) ≤ (μ 23) (y + 1) - (μ 23) y → alK μ sq l y j u = l u := by
  have st := (iN_st hG hL hN).1 y (by omega) y1
  have off : ∀ u : Int, 0 ≤ u → u < (μ 19 2) → (μ 21) u ≠ y → ∀ j : Nat, (j : Int) ≤ (μ 23) (y + 1) - (μ 23) y → alK μ sq l y j u = l u := fun u u0 u1 u2 j hj => (alK_f hG hL hN hO (by omega) y1 j hj).1 u (fun i hi e => u2 (by rw [e]; exact (hO.1 y (by omega) y1 _ (by omega) (by omega)).2.1))
  refine ⟨?_, off⟩
  have F := (alK_f (l := l) hG hL hN hO (by omega) y1 ((μ 23) (y + 1) - (μ 23) y).toNat (by omega)).2
  have B := alK_b (l := l) hG hL hN hO hl (by omega) y1 ((μ 23) (y + 1) - (μ 23) y).toNat (by omega)
  -- the value at a place k
  have V : ∀ k : Int, (μ 23) y ≤ k → k < (μ 23) (y + 1) → ∃ i : Nat, (i : Int) = (μ 23) (y + 1) - 1 - k ∧ alK μ sq l y ((μ 23) (y + 1) - (μ 23) y).toNat (sq k) = max (l (sq k)) (min (dsr μ (alK μ sq l y i) (sq k) y) ((if i = 0 then 1073741824 else alK μ sq l y ((μ 23) (y + 1) - (μ 23) y).toNat (sq (k + 1)) - 1) - xWd μ (sq k))) := fun k k0 k1 => by
    have f := F ((μ 23) (y + 1) - 1 - k).toNat (by omega)
    rw [show (μ 23) (y + 1) - 1 - ((((μ 23) (y + 1) - 1 - k).toNat : Nat) : Int) = k by omega] at f
    exact ⟨((μ 23) (y + 1) - 1 - k).toNat, by omega, f⟩
  have A1 : ∀ k : Int, (μ 23) y ≤ k → k + 1 < (μ 23) (y + 1) → alK μ sq l y ((μ 23) (y + 1) - (μ 23) y).toNat (sq k) + xWd μ (sq k) + 1 ≤ alK μ sq l y ((μ 23) (y + 1) - (μ 23) y).toNat (sq (k + 1)) := fun k k0 k1 => by
    obtain ⟨i, hi, v⟩ := V k k0 (by omega)
    obtain ⟨i', hi', v'⟩ := V (k + 1) (by omega) k1
    have h := hx k k0 k1
    rw [if_neg (by omega)] at v
    omega
  refine ⟨A1, fun k k0 k1 => ?_⟩
  obtain ⟨i, hi, v⟩ := V k k0 k1
  have o := hO.1 y (by omega) y1 k k0 k1
  by_cases c : dsr μ (alK μ sq l y i) (sq k) y ≤ alK μ sq l y ((μ 23) (y + 1) - (μ 23) y).toNat (sq k)
  · refine Or.inl ?_
    have d := dsr_k c
    rw [xBl_c (g := alK μ sq l y ((μ 23) (y + 1) - (μ 23) y).toNat) hG hL hN (fun u u0 u1 u2 => by rw [off u u0 u1 (by omega) i (by omega), off u u0 u1 (by omega) _ (by omega)])] at d
    exact d
  · refine Or.inr ?_
    have b := B (sq k) o.1.1 o.1.2
    have w := xWd_b hG o.1.1
    by_cases d : i = 0
    · rw [if_pos d] at v
      omega
    · rw [if_neg d] at v
      have a := A1 k k0 (by omega)
      exact ⟨by omega, by omega⟩
theorem alY_ok {μ : MU} {sq pl l : Int → Int} (hG : iG μ) (hL : iL μ) (hN : iN μ) (hO : iO μ sq pl) (hl : hLb μ l) (hx : ∀ y k : Int, 0 ≤ y → y < (μ 9 1) → (μ 23) y ≤ k → k + 1 < (μ 23) (y + 1) → l (sq k) + xWd μ (sq k) + 1 ≤ l (sq (k + 1))) : ∀ n : Nat, (n : Int) < (μ 9 1) ∨ n = 0 → (∀ u : Int, 0 ≤ u → u < (μ 19 2) → ((μ 21) u = 0 ∨ (n : Int) < (μ 21) u) → alY μ sq l n u = l u) ∧ ∀ y : Int, 1 ≤ y → y ≤ n → okY μ sq (alY μ sq l n) y := by
  intro n
  induction n with
  | zero => intro _; exact ⟨fun u _ _ _ => rfl, fun y y0 y1 => by omega⟩
  | succ n ih =>
    intro hn
    have hn' : ((n : Int) + 1) < (μ 9 1) := by omega
    obtain ⟨h1, h2⟩ := ih (by omega)
    have e : alY μ sq l (n + 1) = alK μ sq (alY μ sq l n) ((n : Int) + 1) ((μ 23) ((n : Int) + 1 + 1) - (μ 23) ((n : Int) + 1)).toNat := by
      show alK μ sq (alY μ sq l n) ((n : Int) + 1) ((μ 23) ((n : Int) + 2) - (μ 23) ((n : Int) + 1)).toNat = _
      rw [show (n : Int) + 2 = (n : Int) + 1 + 1 by omega]
    have st := (iN_st hG hL hN).1 ((n : Int) + 1) (by omega) hn'
    have k := alK_ok (l := alY μ sq l n) (y := (n : Int) + 1) hG hL hN hO (alY_b hG hL hN hO hl n (by omega)) (by omega) hn' (fun k k0 k1 => by
      have o := hO.1 ((n : Int) + 1) (by omega) hn' k k0 (by omega)
      have o' := hO.1 ((n : Int) + 1) (by omega) hn' (k + 1) (by omega) k1
      rw [h1 _ o.1.1 o.1.2 (Or.inr (by omega)), h1 _ o'.1.1 o'.1.2 (Or.inr (by omega))]
      exact hx ((n : Int) + 1) k (by omega) hn' k0 k1)
    rw [e]
    have off := fun u u0 u1 u2 => k.2 u u0 u1 u2 ((μ 23) ((n : Int) + 1 + 1) - (μ 23) ((n : Int) + 1)).toNat (by omega)
    refine ⟨fun u u0 u1 u2 => ?_, fun y y0 y1 => ?_⟩
    · rw [off u u0 u1 (by omega)]
      exact h1 u u0 u1 (by omega)
    · by_cases c : y = (n : Int) + 1
      · rw [c]
        exact k.1
      · exact okY_c hG hL hN hO (by omega) (by omega) (fun u u0 u1 u2 => (off u u0 u1 (by omega)).symm) (h2 y y0 (by omega))
theorem p_101 {D : Nat} (hD : 36 ≤ D) {μ : MU} {Q : GQ} (hW : iW μ) (hx : iX μ) (h : ∀ ν : MU, gFr [34, 35] μ ν → iW ν → iX ν → iAl ν → Q (some (gI (hMx (xRt ν) (ν 19 2).toNat))) g_SH ν) : gCall g_T g_F sN sX D 101 [gR 0] g_SH μ Q := by
  have hG := hW.1.1
  have hL := hW.1.2.1
  obtain ⟨hN, hO, hC, hX⟩ := hW.1.2.2.2 hW.2
  have l1 := hW.2
  have G := hG.1
  have L := hL.2.2.2.1
  have V := hN.1
  have lb : hLb μ (alY μ (μ 24) (μ 34) ((μ 9 1) - 1).toNat) := alY_b hG hL hN hO hX _ (by omega)
  have ok := alY_ok (l := (μ 34)) hG hL hN hO hX hx ((μ 9 1) - 1).toNat (by omega)
  obtain ⟨d, rfl⟩ := gD (show 1 ≤ D by omega)
  refine gC 300 [] rfl ?_
  (conv => whnf); try simp only [gO, gWe, ne_eq, Nat.reduceEqDiff, not_false_eq_true, true_or, or_true, true_and]
  repeat' (first | exact True.intro | (refine ⟨fun hb => ?_, fun hb => ?_⟩ <;> first | (exfalso; omega; done) | exact absurd True.intro hb | ((conv => whnf); try simp only [gO, gWe, ne_eq, Nat.reduceEqDiff, not_false_eq_true, true_or, or_true, true_and])) | (refine ⟨by omega, ?_⟩; (conv => whnf); try simp only [gO, gWe, ne_eq, Nat.reduceEqDiff, not_false_eq_true, true_or, or_true, true_and]) | (refine ⟨fun hb => ?_, ?_⟩ <;> first | (exfalso; omega; done) | exact absurd True.intro hb | ((conv => whnf); try simp only [gO, gWe, ne_eq, Nat.reduceEqDiff, not_false_eq_true, true_or, or_true, true_and])) | fail)
  refine t_2 (by omega) hG hL hN hO hX (fun ν hν hl => ?_)
  have sν : hSt μ ν := hν.st (by decide)
  have e19 : (ν 19 2) = (μ 19 2) := by rw [sν 19 (by decide) (by decide)]
  have e24 : (ν 24) = (μ 24) := hν 24 (by decide)
  have wν : iW ν := by
    refine ⟨⟨iG_c sν hG, iL_c sν hL, by rw [hν 0 (by decide)]; exact hW.1.2.2.1, fun _ => ⟨iN_c sν hN, by rw [e24, hν 25 (by decide)]; exact iO_c sν hO, fun y y0 y1 => ?_, fun v v0 v1 => ?_⟩⟩, by rw [hν 0 (by decide)]; exact l1⟩
    · rw [sν 9 (by decide) (by decide)] at y1
      rw [e24]
      exact iC_c sν (hC y y0 y1)
    · rw [e19] at v1
      rw [hl]
      exact lb v v0 v1
  have xν : iX ν := by
    intro y k y0 y1 k0 k1
    rw [sν 9 (by decide) (by decide)] at y1
    rw [sν 23 (by decide) (by decide)] at k0 k1
    rw [hl, e24, xWd_c sν]
    by_cases c : y = 0
    · have o := hO.1 y y0 y1 k k0 (by omega)
      have o' := hO.1 y y0 y1 (k + 1) (by omega) k1
      rw [ok.1 _ o.1.1 o.1.2 (Or.inl (by omega)), ok.1 _ o'.1.1 o'.1.2 (Or.inl (by omega))]
      exact hx y k y0 y1 k0 k1
    · exact (ok.2 y (by omega) (by omega)).1 k k0 k1
  have aν : iAl ν := by
    intro y k y0 y1 k0 k1
    rw [sν 9 (by decide) (by decide)] at y1
    rw [sν 23 (by decide) (by decide)] at k0 k1
    have q := (ok.2 y (by omega) (by omega)).2 k k0 k1
    rw [← hl, ← e24, ← xWd_c sν] at q
    have m : xMa ν y ((ν 24) k) (ν 1 1).toNat = xMa μ y ((ν 24) k) (μ 1 1).toNat := by
      unfold xMa
      rw [sν 1 (by decide) (by decide), sν 14 (by decide) (by decide), sν 15 (by decide) (by decide), xOn_c sν]
    have b : xBe ν y ((ν 24) k) (ν 1 1).toNat = xBl μ (ν 34) y ((ν 24) k) ((ν 34) ((ν 24) k)) (μ 1 1).toNat := by
      unfold xBe xBl
      rw [sν 1 (by decide) (by decide), sν 14 (by decide) (by decide), sν 15 (by decide) (by decide), xOn_c sν]
    rw [m, b, sν 23 (by decide) (by decide)]
    exact q
  have f := h ν hν wν xν aν
  clear ok lb
  (conv => whnf); try simp only [gO, gWe, ne_eq, Nat.reduceEqDiff, not_false_eq_true, true_or, or_true, true_and]
  repeat' (first | exact True.intro | (refine ⟨fun hb => ?_, fun hb => ?_⟩ <;> first | (exfalso; omega; done) | exact absurd True.intro hb | ((conv => whnf); try simp only [gO, gWe, ne_eq, Nat.reduceEqDiff, not_false_eq_true, true_or, or_true, true_and])) | (refine ⟨by omega, ?_⟩; (conv => whnf); try simp only [gO, gWe, ne_eq, Nat.reduceEqDiff, not_false_eq_true, true_or, or_true, true_and]) | (refine ⟨fun hb => ?_, ?_⟩ <;> first | (exfalso; omega; done) | exact absurd True.intro hb | ((conv => whnf); try simp only [gO, gWe, ne_eq, Nat.reduceEqDiff, not_false_eq_true, true_or, or_true, true_and])) | fail)
  refine t_6 (by omega) (iG_c sν hG) (by omega) (wν.1.2.2.2 wν.2).2.2.2 ?_
  (conv => whnf); try simp only [gO, gWe, ne_eq, Nat.reduceEqDiff, not_false_eq_true, true_or, or_true, true_and]
  repeat' (first | exact True.intro | (refine ⟨fun hb => ?_, fun hb => ?_⟩ <;> first | (exfalso; omega; done) | exact absurd True.intro hb | ((conv => whnf); try simp only [gO, gWe, ne_eq, Nat.reduceEqDiff, not_false_eq_true, true_or, or_true, true_and])) | (refine ⟨by omega, ?_⟩; (conv => whnf); try simp only [gO, gWe, ne_eq, Nat.reduceEqDiff, not_false_eq_true, true_or, or_true, true_and]) | (refine ⟨fun hb => ?_, ?_⟩ <;> first | (exfalso; omega; done) | exact absurd True.intro hb | ((conv => whnf); try simp only [gO, gWe, ne_eq, Nat.reduceEqDiff, not_false_eq_true, true_or, or_true, true_and])) | fail)
  exact f
