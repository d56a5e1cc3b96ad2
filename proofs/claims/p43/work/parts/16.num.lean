variable {sN : Int} {sX : Int → Int}
/-! what the numbers of the vertices give -/
theorem gSum_m {f : Int → Int} {n : Nat} (h : ∀ i : Int, 0 ≤ i → i < n → 0 ≤ f i) : ∀ (k j : Nat), j ≤ k → k ≤ n → gSum f j ≤ gSum f k := by
  intro k
  induction k with
  | zero => intro j h1 _; have : j = 0 := by omega
            rw [this]; exact Int.le_refl _
  | succ k ih =>
    intro j h1 h2
    rcases Nat.lt_or_ge k j with h3 | h3
    · have : j = k + 1 := by omega
      rw [this]; exact Int.le_refl _
    · have h4 := ih j h3 (by omega)
      have h5 := h k (by omega) (by omega)
      rw [gSum]
      omega
theorem iN_fb {μ : MU} (hG : iG μ) (hL : iL μ) (hN : iN μ) {e : Int} (h0 : 0 ≤ e) (h1 : e < (μ 1 1)) : (μ 1 0) ≤ (μ 22) e ∧ (μ 22) e + ((μ 15) e - (μ 14) e - 1) ≤ (μ 19 2) ∧ ∀ c : Int, e < c → c < (μ 1 1) → (μ 22) e + ((μ 15) e - (μ 14) e - 1) ≤ (μ 22) c := by
  have hf : ∀ i : Int, 0 ≤ i → i < (μ 1 1).toNat → 0 ≤ (μ 15) i - (μ 14) i - 1 := fun i a b => by have := iE hG hL a (by omega); omega
  have a1 := hN.2.2.1 e h0 h1
  have a2 := gSum_m (f := fun j => (μ 15) j - (μ 14) j - 1) hf e.toNat 0 (by omega) (by omega)
  have a3 := gSum_m (f := fun j => (μ 15) j - (μ 14) j - 1) hf (μ 1 1).toNat (e + 1).toNat (by omega) (by omega)
  rw [gSum_s _ _ h0] at a3
  have a4 : gSum (fun j => (μ 15) j - (μ 14) j - 1) 0 = 0 := rfl
  have a5 := hN.2.1
  refine ⟨by omega, by omega, fun c c0 c1 => ?_⟩
  have b1 := hN.2.2.1 c (by omega) c1
  have b2 := gSum_m (f := fun j => (μ 15) j - (μ 14) j - 1) hf c.toNat (e + 1).toNat (by omega) (by omega)
  rw [gSum_s _ _ h0] at b2
  omega
theorem iN_case {μ : MU} (hG : iG μ) (hL : iL μ) (hN : iN μ) {v : Int} (h0 : (μ 1 0) ≤ v) (h1 : v < (μ 19 2)) : ∃ e y : Int, 0 ≤ e ∧ e < (μ 1 1) ∧ (μ 14) e < y ∧ y < (μ 15) e ∧ v = (μ 22) e + y - (μ 14) e - 1 := by
  have G := hG.1
  have key : ∀ k : Nat, (k : Int) ≤ (μ 1 1) → v < (μ 1 0) + gSum (fun j => (μ 15) j - (μ 14) j - 1) k → ∃ e y : Int, 0 ≤ e ∧ e < (μ 1 1) ∧ (μ 14) e < y ∧ y < (μ 15) e ∧ v = (μ 22) e + y - (μ 14) e - 1 := by
    intro k
    induction k with
    | zero => intro _ h; have : gSum (fun j => (μ 15) j - (μ 14) j - 1) 0 = 0 := rfl
              omega
    | succ k ih =>
      intro hk h
      rw [gSum] at h
      have a1 := hN.2.2.1 (k : Int) (by omega) (by omega)
      rw [show ((k : Nat) : Int).toNat = k by omega] at a1
      by_cases hc : v < (μ 1 0) + gSum (fun j => (μ 15) j - (μ 14) j - 1) k
      · exact ih (by omega) hc
      · exact ⟨k, v - (μ 22) k + (μ 14) k + 1, by omega, by omega, by omega, by omega, by omega⟩
  have a5 := hN.2.1
  exact key (μ 1 1).toNat (by omega) (by omega)
/-- a vertex is a node or a bend -/
theorem iN_two {μ : MU} (hG : iG μ) (hL : iL μ) (hN : iN μ) {v : Int} (h0 : 0 ≤ v) (h1 : v < (μ 19 2)) : (v < (μ 1 0) ∧ (μ 20) v = v ∧ (μ 21) v = (μ 13) v ∧ 0 ≤ (μ 13) v ∧ (μ 13) v < (μ 9 1)) ∨ ((μ 1 0) ≤ v ∧ ∃ e y : Int, 0 ≤ e ∧ e < (μ 1 1) ∧ (μ 14) e < y ∧ y < (μ 15) e ∧ v = (μ 22) e + y - (μ 14) e - 1 ∧ (μ 20) v = 100 + 40 * e + y ∧ (μ 21) v = y ∧ 0 ≤ y ∧ y < (μ 9 1)) := by
  by_cases hc : v < (μ 1 0)
  · have a := hN.2.2.2.1 v h0 hc
    have b := hL.2.2.1 v h0 hc
    exact Or.inl ⟨hc, a.1, a.2, b.1, b.2⟩
  · obtain ⟨e, y, e0, e1, y0, y1, hv⟩ := iN_case hG hL hN (by omega) h1
    have a := hN.2.2.2.2.1 e y e0 e1 y0 y1
    rw [← hv] at a
    have E := iE hG hL e0 e1
    exact Or.inr ⟨by omega, e, y, e0, e1, y0, y1, hv, a.1, a.2, by omega, by omega⟩
theorem iN_mono {μ : MU} (hG : iG μ) (hL : iL μ) (hN : iN μ) {v w : Int} (h0 : 0 ≤ v) (h1 : v < w) (h2 : w < (μ 19 2)) : (μ 20) v < (μ 20) w := by
  have G := hG.1
  have hL34 := hL.2.2.2.1
  rcases iN_two hG hL hN h0 (by omega) with ⟨a1, a2, -⟩ | ⟨a0, e, y, e0, e1, y0, y1, hv, a1, -, y2, y3⟩ <;>
  rcases iN_two hG hL hN (v := w) (by omega) h2 with ⟨b1, b2, -⟩ | ⟨b0, e', y', e0', e1', y0', y1', hw, b1, -, y2', y3'⟩
  · omega
  · omega
  · omega
  · by_cases hc : e = e'
    · subst hc; omega
    · by_cases hd : e < e'
      · omega
      · have := (iN_fb hG hL hN e0' e1').2.2 e (by omega) e1
        omega
theorem iN_inj {μ : MU} (hG : iG μ) (hL : iL μ) (hN : iN μ) {v w : Int} (h0 : 0 ≤ v) (h1 : v < (μ 19 2)) (h2 : 0 ≤ w) (h3 : w < (μ 19 2)) (h : (μ 20) v = (μ 20) w) : v = w := by
  by_cases hc : v < w
  · have := iN_mono hG hL hN h0 hc h3; omega
  · by_cases hd : w < v
    · have := iN_mono hG hL hN h2 hd h1; omega
    · omega
theorem iN_lay {μ : MU} (hG : iG μ) (hL : iL μ) (hN : iN μ) {v : Int} (h0 : 0 ≤ v) (h1 : v < (μ 19 2)) : 0 ≤ (μ 21) v ∧ (μ 21) v < (μ 9 1) := by
  rcases iN_two hG hL hN h0 h1 with ⟨a1, a2, a3, a4⟩ | ⟨a0, e, y, e0, e1, y0, y1, hv, a1, a2, y2, y3⟩ <;> omega
theorem iN_st {μ : MU} (hG : iG μ) (hL : iL μ) (hN : iN μ) : (∀ y : Int, 0 ≤ y → y < (μ 9 1) → 0 ≤ (μ 23) y ∧ (μ 23) y ≤ (μ 23) (y + 1) ∧ (μ 23) (y + 1) ≤ (μ 19 2)) ∧ ∀ y : Int, 0 ≤ y → y ≤ (μ 9 1) → 0 ≤ (μ 23) y ∧ (μ 23) y ≤ (μ 19 2) := by
  have L := hL.2.2.2.1
  have hs : ∀ y : Int, 0 ≤ y → y < (μ 9 1) → (μ 23) y ≤ (μ 23) (y + 1) := fun y y0 y1 => by
    have a := hN.2.2.2.2.2.2.2 y y0 y1
    have b := gSum_b (f := fun v => if (μ 21) v = y then 1 else 0) (a := 0) (b := 1) (μ 19 2).toNat (fun i _ _ => by split <;> omega)
    omega
  have h0 : ∀ y : Int, 0 ≤ y → y ≤ (μ 9 1) → 0 ≤ (μ 23) y := by
    have key : ∀ k : Nat, (k : Int) ≤ (μ 9 1) → 0 ≤ (μ 23) k := by
      intro k
      induction k with
      | zero => intro _; have := hN.2.2.2.2.2.1; show 0 ≤ (μ 23) 0; omega
      | succ k ih => intro h; have a := ih (by omega); have b := hs k (by omega) (by omega); show 0 ≤ (μ 23) ((k : Int) + 1); omega
    intro y y0 y1
    have := key y.toNat (by omega)
    rw [show ((y.toNat : Nat) : Int) = y by omega] at this
    exact this
  have h1 : ∀ y : Int, 0 ≤ y → y ≤ (μ 9 1) → (μ 23) y ≤ (μ 19 2) := by
    intro y
    have hd := g_dn (P := fun y => 0 ≤ y → (μ 23) y ≤ (μ 19 2)) (lo := y) (hi := (μ 9 1))
    have hu := g_up (P := fun y => 0 ≤ y → (μ 23) y ≤ (μ 19 2)) (lo := 0) (hi := (μ 9 1)) (fun i i0 i1 ih _ => by have a := hs i i0 i1; have b := ih (by omega); omega) (fun _ => by have := hN.2.2.2.2.2.2.1; omega)
    intro y0 y1
    exact hu y y0 y1 y0
  exact ⟨fun y y0 y1 => ⟨h0 y y0 (by omega), hs y y0 y1, h1 (y + 1) (by omega) (by omega)⟩, fun y y0 y1 => ⟨h0 y y0 y1, h1 y y0 y1⟩⟩
theorem iN_mon {μ : MU} (hG : iG μ) (hL : iL μ) (hN : iN μ) {y z : Int} (h0 : 0 ≤ y) (h1 : y ≤ z) (h2 : z ≤ (μ 9 1)) : (μ 23) y ≤ (μ 23) z :=
  g_up (P := fun i => (μ 23) y ≤ (μ 23) z ∨ i ≠ i → True) (lo := 0) (hi := 0) (fun _ _ _ _ _ => trivial) (fun _ => trivial) 0 (by omega) (by omega) |> fun _ => by
    have := g_dn (P := fun i => (μ 23) y ≤ (μ 23) i) (lo := y) (hi := (μ 9 1)) (fun i i0 i1 ih => by
      have a := ((iN_st hG hL hN).1 (i - 1) (by omega) (by omega)).2.1
      rw [show i - 1 + 1 = i by omega] at a
      omega) (Int.le_refl _)
    exact this z h1 h2
theorem iN_ly {μ : MU} (hG : iG μ) (hL : iL μ) (hN : iN μ) {k : Int} (h0 : 0 ≤ k) (h1 : k < (μ 19 2)) : ∃ y : Int, 0 ≤ y ∧ y < (μ 9 1) ∧ (μ 23) y ≤ k ∧ k < (μ 23) (y + 1) := by
  have hu := g_dn (P := fun z => k < (μ 23) z → ∃ y : Int, 0 ≤ y ∧ y < (μ 9 1) ∧ (μ 23) y ≤ k ∧ k < (μ 23) (y + 1)) (lo := 0) (hi := (μ 9 1)) (fun i i0 i1 ih h => by
    by_cases hc : k < (μ 23) (i - 1)
    · exact ih hc
    · exact ⟨i - 1, by omega, by omega, by omega, by rw [show i - 1 + 1 = i by omega]; exact h⟩) (fun h => by have := hN.2.2.2.2.2.1; omega)
  have := hN.2.2.2.2.2.2.1
  exact hu (μ 9 1) hL.2.2.2.1.1 (Int.le_refl _) (by omega)
/-- the order as a whole -/
theorem iO_k {μ : MU} {sq pl : Int → Int} (hG : iG μ) (hL : iL μ) (hN : iN μ) (hO : iO μ sq pl) {k : Int} (h0 : 0 ≤ k) (h1 : k < (μ 19 2)) : (0 ≤ sq k ∧ sq k < (μ 19 2)) ∧ (0 ≤ (μ 21) (sq k) ∧ (μ 21) (sq k) < (μ 9 1)) ∧ (μ 23) ((μ 21) (sq k)) + pl (sq k) = k ∧ k < (μ 23) ((μ 21) (sq k) + 1) ∧ 0 ≤ pl (sq k) := by
  obtain ⟨y, y0, y1, y2, y3⟩ := iN_ly hG hL hN h0 h1
  obtain ⟨a, b, c⟩ := hO.1 y y0 y1 k y2 y3
  rw [b]
  exact ⟨a, ⟨y0, y1⟩, by omega, y3, by omega⟩
theorem iO_v {μ : MU} {sq pl : Int → Int} (hG : iG μ) (hL : iL μ) (hN : iN μ) (hO : iO μ sq pl) {v : Int} (h0 : 0 ≤ v) (h1 : v < (μ 19 2)) : (0 ≤ (μ 21) v ∧ (μ 21) v < (μ 9 1)) ∧ (0 ≤ pl v ∧ pl v < 60) ∧ (0 ≤ (μ 23) ((μ 21) v) ∧ (μ 23) ((μ 21) v) + pl v < (μ 23) ((μ 21) v + 1) ∧ (μ 23) ((μ 21) v + 1) ≤ (μ 19 2)) ∧ sq ((μ 23) ((μ 21) v) + pl v) = v := by
  have a := iN_lay hG hL hN h0 h1
  have b := hO.2 v h0 h1
  have c := (iN_st hG hL hN).1 _ a.1 a.2
  have d := hN.1
  exact ⟨a, ⟨b.1, by omega⟩, ⟨by omega, b.2.1, by omega⟩, b.2.2⟩
theorem iO_inj {μ : MU} {sq pl : Int → Int} (hG : iG μ) (hL : iL μ) (hN : iN μ) (hO : iO μ sq pl) {j k : Int} (h0 : 0 ≤ j) (h1 : j < (μ 19 2)) (h2 : 0 ≤ k) (h3 : k < (μ 19 2)) (h : sq j = sq k) : j = k := by
  have a := (iO_k hG hL hN hO h0 h1).2.2.1
  have b := (iO_k hG hL hN hO h2 h3).2.2.1
  rw [h] at a
  omega
