variable {sN : Int} {sX : Int → Int}
/-! the model lays out -/
def hSg (μ ν : MU) : Prop := ∀ c : Nat, 1 ≤ c → c ≤ 18 → ν c = μ c
theorem iG_g {μ ν : MU} (h : hSg μ ν) (x : iG μ) : iG ν := iG_f (h 1 (by decide) (by decide)) (h 2 (by decide) (by decide)) (h 3 (by decide) (by decide)) (h 4 (by decide) (by decide)) (h 5 (by decide) (by decide)) (h 6 (by decide) (by decide)) (h 7 (by decide) (by decide)) (h 8 (by decide) (by decide)) x
theorem iL_g {μ ν : MU} (h : hSg μ ν) (x : iL μ) : iL ν := by
  unfold iL iU at *
  rw [h 1 (by decide) (by decide), h 4 (by decide) (by decide), h 5 (by decide) (by decide), h 8 (by decide) (by decide), h 9 (by decide) (by decide), h 10 (by decide) (by decide), h 11 (by decide) (by decide), h 12 (by decide) (by decide), h 13 (by decide) (by decide), h 14 (by decide) (by decide), h 15 (by decide) (by decide)]
  exact x
theorem hSt.g {μ ν : MU} (h : hSt μ ν) : hSg μ ν := fun c a b => h c a (by omega)
/-- how many vertices of a layer come before an edge's -/
theorem hCn_e {μ : MU} (hG : iG μ) (hL : iL μ) (hN : iN μ) {e y : Int} (e0 : 0 ≤ e) (e1 : e < (μ 1 1)) : ∀ j : Nat, (j : Int) ≤ (μ 15) e - (μ 14) e - 1 → hCn μ y ((μ 22) e + j).toNat = hCn μ y ((μ 22) e).toNat + if (μ 14) e < y ∧ y < (μ 14) e + 1 + j then 1 else 0 := by
  have fb := iN_fb hG hL hN e0 e1
  have G := hG.1
  intro j
  induction j with
  | zero => intro _; rw [if_neg (by omega), show (μ 22) e + ((0 : Nat) : Int) = (μ 22) e by omega, Int.add_zero]
  | succ j ih =>
    intro hj
    have i := ih (by omega)
    have s := hCn_s (μ := μ) (y := y) (v := (μ 22) e + j) (by omega)
    have l := (hN.2.2.2.2.1 e ((μ 14) e + 1 + j) e0 e1 (by omega) (by omega)).2
    rw [show (μ 22) e + ((μ 14) e + 1 + (j : Int)) - (μ 14) e - 1 = (μ 22) e + j by omega] at l
    rw [show (μ 22) e + ((j + 1 : Nat) : Int) = (μ 22) e + j + 1 by omega, s, i, l]
    by_cases c1 : (μ 14) e + 1 + j = y
    · rw [if_neg (by omega), if_pos c1, if_pos (by omega)]; omega
    · rw [if_neg c1]
      by_cases c2 : (μ 14) e < y ∧ y < (μ 14) e + 1 + j
      · rw [if_pos c2, if_pos (by omega)]; omega
      · rw [if_neg c2, if_neg (by omega)]; omega
def hFb (μ : MU) (e : Int) : Int := if e < (μ 1 1) then (μ 22) e else (μ 19 2)
theorem hFb_s {μ : MU} (hG : iG μ) (hL : iL μ) (hN : iN μ) {e : Int} (e0 : 0 ≤ e) (e1 : e < (μ 1 1)) : hFb μ (e + 1) = (μ 22) e + ((μ 15) e - (μ 14) e - 1) := by
  have a := hN.2.2.1 e e0 e1
  have b : hBn μ (e + 1) = hBn μ e + ((μ 15) e - (μ 14) e - 1) := hBn_s e0
  have a' : (μ 22) e = (μ 1 0) + hBn μ e := a
  unfold hFb
  by_cases c : e + 1 < (μ 1 1)
  · have d : (μ 22) (e + 1) = (μ 1 0) + hBn μ (e + 1) := hN.2.2.1 (e + 1) (by omega) c
    rw [if_pos c]; omega
  · have d : (μ 19 2) = (μ 1 0) + hBn μ (μ 1 1) := hN.2.1
    rw [if_neg c, d, show (μ 1 1) = e + 1 by omega]; omega
theorem hFb_0 {μ : MU} (hG : iG μ) (hN : iN μ) : hFb μ 0 = (μ 1 0) := by
  have G := hG.1
  unfold hFb
  by_cases c : 0 < (μ 1 1)
  · rw [if_pos c, hN.2.2.1 0 (by omega) c]
    have : gSum (fun j => (μ 15) j - (μ 14) j - 1) (0 : Int).toNat = 0 := rfl
    omega
  · rw [if_neg c, hN.2.1, show (μ 1 1) = 0 by omega]
    have : gSum (fun j => (μ 15) j - (μ 14) j - 1) (0 : Int).toNat = 0 := rfl
    omega
