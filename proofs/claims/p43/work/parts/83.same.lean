variable {sN : Int} {sX : Int → Int}
/-! two layerings of one graph are the same -/
theorem gFold_c {S : Type} {g g' : Int → S → S} {m : Nat} (h : ∀ (k : Nat) (q : S), k < m → g k q = g' k q) : ∀ (k : Nat) (s : S), k ≤ m → gFold g k s = gFold g' k s := by
  intro k
  induction k with
  | zero => intro s _; rfl
  | succ k ih =>
    intro s hk
    show g k (gFold g k s) = g' k (gFold g' k s)
    rw [ih s (by omega), h k _ (by omega)]
theorem gDfs_c {m : Nat} {src tgt src' tgt' : Int → Int} (h : ∀ e : Int, 0 ≤ e → e < m → src e = src' e ∧ tgt e = tgt' e) : ∀ (f : Nat) (a : Int) (s : GD), gDfs m src tgt f a s = gDfs m src' tgt' f a s := by
  intro f
  induction f with
  | zero => intro a s; rfl
  | succ f ih =>
    intro a s
    rw [gDfs_s, gDfs_s, gFold_c (g := dStep m src tgt f a) (g' := dStep m src' tgt' f a) (m := m) (fun k q hk => ?_) m _ (Nat.le_refl _)]
    have e := h k (by omega) (by omega)
    unfold dStep
    rw [e.1, e.2, ih]
theorem gDirs_c {n m : Nat} {src tgt src' tgt' : Int → Int} (h : ∀ e : Int, 0 ≤ e → e < m → src e = src' e ∧ tgt e = tgt' e) : gDirs n m src tgt = gDirs n m src' tgt' := by
  rw [gDirs_s, gDirs_s]
  refine gFold_c (m := n) (fun k q hk => ?_) n _ (Nat.le_refl _)
  unfold dTop
  rw [gDfs_c h]
theorem gLow_c {n m : Int} {up lo ls up' lo' ls' l : Int → Int} (hu : ∀ e : Int, 0 ≤ e → e < m → up e = up' e ∧ lo e = lo' e ∧ ls e = ls' e) (h : gLow n m up lo ls l) : gLow n m up' lo' ls' l := by
  have fe : ∀ q : Int → Int, gFea n m up lo ls q ↔ gFea n m up' lo' ls' q := fun q => by
    unfold gFea
    refine ⟨fun hh => ⟨hh.1, fun e e0 e1 => ?_⟩, fun hh => ⟨hh.1, fun e e0 e1 => ?_⟩⟩
    · have a := hu e e0 e1
      rw [← a.1, ← a.2.1, ← a.2.2]; exact hh.2 e e0 e1
    · have a := hu e e0 e1
      rw [a.1, a.2.1, a.2.2]; exact hh.2 e e0 e1
  have ft : ∀ q : Int → Int, gTot m up lo q = gTot m up' lo' q := fun q => gSum_c _ (fun e e0 e1 => by
    have a := hu e e0 (by omega)
    show q (lo e) - q (up e) = q (lo' e) - q (up' e)
    rw [a.1, a.2.1])
  refine ⟨(fe l).mp h.1, fun q hq => ?_, fun q hq ht i i0 i1 => ?_⟩
  · rw [← ft, ← ft]; exact h.2.1 q ((fe q).mpr hq)
  · rw [← ft, ← ft] at ht
    exact h.2.2 q ((fe q).mpr hq) ht i i0 i1
theorem gLow_u {n m : Int} {up lo ls l l' : Int → Int} (h : gLow n m up lo ls l) (h' : gLow n m up lo ls l') : ∀ i : Int, 0 ≤ i → i < n → l i = l' i := fun i i0 i1 => by
  have a := h.2.2 l' h'.1 (h'.2.1 l h.1) i i0 i1
  have b := h'.2.2 l h.1 (h.2.1 l' h'.1) i i0 i1
  omega
/-- the same graph -/
def hGr (ν ρ : MU) : Prop := ((ν 1 0) = (ρ 1 0) ∧ (ν 1 1) = (ρ 1 1)) ∧ (∀ i : Int, 0 ≤ i → i < (ρ 1 0) → (ν 2) i = (ρ 2) i ∧ (ν 3) i = (ρ 3) i) ∧ ∀ e : Int, 0 ≤ e → e < (ρ 1 1) → (ν 4) e = (ρ 4) e ∧ (ν 5) e = (ρ 5) e ∧ (ν 6) e = (ρ 6) e ∧ (ν 7) e = (ρ 7) e ∧ (ν 8) e = (ρ 8) e
/-- the same layers -/
def hLy (ν ρ : MU) : Prop := (ν 9 1) = (ρ 9 1) ∧ (∀ i : Int, 0 ≤ i → i < (ρ 1 0) → (ν 13) i = (ρ 13) i) ∧ ∀ e : Int, 0 ≤ e → e < (ρ 1 1) → (ν 10) e = (ρ 10) e ∧ (ν 11) e = (ρ 11) e ∧ (ν 12) e = (ρ 12) e ∧ (ν 14) e = (ρ 14) e ∧ (ν 15) e = (ρ 15) e
theorem hLy_x {ν ρ : MU} (hG : iG ρ) (h : hGr ν ρ) (hν : iL ν) (hρ : iL ρ) : hLy ν ρ := by
  obtain ⟨⟨n, m⟩, h1, h2⟩ := h
  have G := hG.1
  have U : ∀ e : Int, 0 ≤ e → e < (ρ 1 1) → (ν 10) e = (ρ 10) e ∧ (ν 11) e = (ρ 11) e ∧ (ν 12) e = (ρ 12) e := fun e e0 e1 => by
    have a := hν.1 e e0 (by omega)
    have b := hρ.1 e e0 e1
    have c := h2 e e0 e1
    have d : (gDirs (ν 1 0).toNat (ν 1 1).toNat (ν 4) (ν 5)).2 e = (gDirs (ρ 1 0).toNat (ρ 1 1).toNat (ρ 4) (ρ 5)).2 e := by
      rw [n, m, gDirs_c (fun e e0 e1 => ⟨(h2 e e0 (by omega)).1, (h2 e e0 (by omega)).2.1⟩)]
    have t : (ν 10) e = (ρ 10) e := by rw [a.1, b.1, d]
    rcases a.2 with ⟨a1, a2, a3⟩ | ⟨a1, a2, a3⟩ <;> rcases b.2 with ⟨b1, b2, b3⟩ | ⟨b1, b2, b3⟩
    · exact ⟨t, by rw [a2, b2]; exact c.2.1, by rw [a3, b3]; exact c.1⟩
    · omega
    · omega
    · exact ⟨t, by rw [a2, b2]; exact c.1, by rw [a3, b3]; exact c.2.1⟩
  have ly : ∀ i : Int, 0 ≤ i → i < (ρ 1 0) → (ν 13) i = (ρ 13) i := fun i i0 i1 => by
    have lν := hν.2.2.2.2.2
    rw [n, m] at lν
    exact gLow_u (gLow_c (fun e e0 e1 => ⟨(U e e0 e1).2.1, (U e e0 e1).2.2, (h2 e e0 e1).2.2.2.2⟩) lν) hρ.2.2.2.2.2 i i0 i1
  refine ⟨?_, ly, fun e e0 e1 => ?_⟩
  · have a := hν.2.2.2.2.1
    have b := hρ.2.2.2.2.1
    have a0 := hν.2.2.2.1
    have b0 := hρ.2.2.2.1
    have lt : (ν 9 1) ≤ (ρ 9 1) := by
      rcases a with a | ⟨i, i0, i1, i2⟩
      · omega
      · have := ly i i0 (by omega)
        have := hρ.2.2.1 i i0 (by omega)
        omega
    have gt : (ρ 9 1) ≤ (ν 9 1) := by
      rcases b with b | ⟨i, i0, i1, i2⟩
      · omega
      · have := ly i i0 i1
        have := hν.2.2.1 i i0 (by omega)
        omega
    omega
  · have u := U e e0 e1
    have a := hν.2.1 e e0 (by omega)
    have b := hρ.2.1 e e0 e1
    have E := iE hG hρ e0 e1
    refine ⟨u.1, u.2.1, u.2.2, ?_, ?_⟩
    · rw [a.1, b.1, u.2.1]; exact ly _ E.1.1 E.1.2
    · rw [a.2.1, b.2.1, u.2.2]; exact ly _ E.2.1.1 E.2.1.2
/-- the same vertices -/
theorem hVx {ν ρ : MU} (hG : iG ρ) (h : hGr ν ρ) (hl : hLy ν ρ) (hLρ : iL ρ) (hν : iN ν) (hρ : iN ρ) : (ν 19 2) = (ρ 19 2) ∧ (∀ v : Int, 0 ≤ v → v < (ρ 19 2) → (ν 20) v = (ρ 20) v ∧ (ν 21) v = (ρ 21) v) ∧ ∀ y : Int, 0 ≤ y → y ≤ (ρ 9 1) → (ν 23) y = (ρ 23) y := by
  obtain ⟨⟨n, m⟩, h1, h2⟩ := h
  obtain ⟨l1, l2, l3⟩ := hl
  have G := hG.1
  have sm : ∀ k : Nat, (k : Int) ≤ (ρ 1 1) → gSum (fun j => (ν 15) j - (ν 14) j - 1) k = gSum (fun j => (ρ 15) j - (ρ 14) j - 1) k := fun k hk => gSum_c _ (fun e e0 e1 => by
    have a := l3 e e0 (by omega)
    show (ν 15) e - (ν 14) e - 1 = (ρ 15) e - (ρ 14) e - 1
    rw [a.2.2.2.1, a.2.2.2.2])
  have vc : (ν 19 2) = (ρ 19 2) := by rw [hν.2.1, hρ.2.1, n, m, sm _ (by omega)]
  have nm : ∀ v : Int, 0 ≤ v → v < (ρ 19 2) → (ν 20) v = (ρ 20) v ∧ (ν 21) v = (ρ 21) v := fun v v0 v1 => by
    by_cases c : v < (ρ 1 0)
    · have a := hν.2.2.2.1 v v0 (by omega)
      have b := hρ.2.2.2.1 v v0 c
      have d := l2 v v0 c
      omega
    · obtain ⟨e, y, e0, e1, y0, y1, hv⟩ := iN_case hG hLρ hρ (show (ρ 1 0) ≤ v by omega) v1
      have t := l3 e e0 e1
      have a := hν.2.2.2.2.1 e y e0 (by omega) (by omega) (by omega)
      have b := hρ.2.2.2.2.1 e y e0 e1 y0 y1
      have f1 := hν.2.2.1 e e0 (by omega)
      have f2 := hρ.2.2.1 e e0 e1
      rw [sm _ (by omega)] at f1
      rw [← hv] at b
      rw [show (ν 22) e + y - (ν 14) e - 1 = v by omega] at a
      omega
  refine ⟨vc, nm, ?_⟩
  have key : ∀ k : Nat, (k : Int) ≤ (ρ 9 1) → (ν 23) k = (ρ 23) k := by
    intro k
    induction k with
    | zero => intro _; exact hν.2.2.2.2.2.1.trans hρ.2.2.2.2.2.1.symm
    | succ k ih =>
      intro hk
      have a := hν.2.2.2.2.2.2.2 k (by omega) (by omega)
      have b := hρ.2.2.2.2.2.2.2 k (by omega) (by omega)
      rw [show ((k + 1 : Nat) : Int) = (k : Int) + 1 by omega, a, b, ih (by omega), vc]
      rw [gSum_c (g := fun v => if (ρ 21) v = (k : Int) then (1 : Int) else 0) (ρ 19 2).toNat (fun v v0 v1 => by
        show (if (ν 21) v = (k : Int) then (1 : Int) else 0) = _
        rw [(nm v v0 (by omega)).2])]
  intro y y0 y1
  have := key y.toNat (by omega)
  rw [show ((y.toNat : Nat) : Int) = y by omega] at this
  exact this
