variable {sN : Int} {sX : Int → Int}
/-! what a change elsewhere leaves; where the edges pass the layers, and their crossings -/
def hSt (μ ν : MU) : Prop := ∀ c : Nat, 1 ≤ c → c ≤ 23 → ν c = μ c
theorem hSt.rf {μ : MU} : hSt μ μ := fun _ _ _ => rfl
theorem hSt.tr {μ ν ρ : MU} (h : hSt μ ν) (h' : hSt ν ρ) : hSt μ ρ := fun c a b => (h' c a b).trans (h c a b)
theorem hSt.sy {μ ν : MU} (h : hSt μ ν) : hSt ν μ := fun c a b => (h c a b).symm
theorem gFr.st {l : List Nat} {μ ν : MU} (h : gFr l μ ν) (hl : ∀ c ∈ l, 23 < c) : hSt μ ν := fun c _ b => h c (fun hc => by have := hl c hc; omega)
theorem iG_c {μ ν : MU} (h : hSt μ ν) (x : iG μ) : iG ν := by
  unfold iG at *
  simp only [h 1 (by decide) (by decide), h 2 (by decide) (by decide), h 3 (by decide) (by decide), h 4 (by decide) (by decide), h 5 (by decide) (by decide), h 6 (by decide) (by decide), h 7 (by decide) (by decide), h 8 (by decide) (by decide), h 9 (by decide) (by decide), h 10 (by decide) (by decide), h 11 (by decide) (by decide), h 12 (by decide) (by decide), h 13 (by decide) (by decide), h 14 (by decide) (by decide), h 15 (by decide) (by decide), h 16 (by decide) (by decide), h 17 (by decide) (by decide), h 18 (by decide) (by decide), h 19 (by decide) (by decide), h 20 (by decide) (by decide), h 21 (by decide) (by decide), h 22 (by decide) (by decide), h 23 (by decide) (by decide)]
  exact x
theorem iL_c {μ ν : MU} (h : hSt μ ν) (x : iL μ) : iL ν := by
  unfold iL iU at *
  simp only [h 1 (by decide) (by decide), h 2 (by decide) (by decide), h 3 (by decide) (by decide), h 4 (by decide) (by decide), h 5 (by decide) (by decide), h 6 (by decide) (by decide), h 7 (by decide) (by decide), h 8 (by decide) (by decide), h 9 (by decide) (by decide), h 10 (by decide) (by decide), h 11 (by decide) (by decide), h 12 (by decide) (by decide), h 13 (by decide) (by decide), h 14 (by decide) (by decide), h 15 (by decide) (by decide), h 16 (by decide) (by decide), h 17 (by decide) (by decide), h 18 (by decide) (by decide), h 19 (by decide) (by decide), h 20 (by decide) (by decide), h 21 (by decide) (by decide), h 22 (by decide) (by decide), h 23 (by decide) (by decide)]
  exact x
theorem iN_c {μ ν : MU} (h : hSt μ ν) (x : iN μ) : iN ν := by
  unfold iN at *
  simp only [h 1 (by decide) (by decide), h 2 (by decide) (by decide), h 3 (by decide) (by decide), h 4 (by decide) (by decide), h 5 (by decide) (by decide), h 6 (by decide) (by decide), h 7 (by decide) (by decide), h 8 (by decide) (by decide), h 9 (by decide) (by decide), h 10 (by decide) (by decide), h 11 (by decide) (by decide), h 12 (by decide) (by decide), h 13 (by decide) (by decide), h 14 (by decide) (by decide), h 15 (by decide) (by decide), h 16 (by decide) (by decide), h 17 (by decide) (by decide), h 18 (by decide) (by decide), h 19 (by decide) (by decide), h 20 (by decide) (by decide), h 21 (by decide) (by decide), h 22 (by decide) (by decide), h 23 (by decide) (by decide)]
  exact x
theorem iO_c {μ ν : MU} {sq pl : Int → Int} (h : hSt μ ν) (x : iO μ sq pl) : iO ν sq pl := by
  unfold iO at *
  simp only [h 1 (by decide) (by decide), h 2 (by decide) (by decide), h 3 (by decide) (by decide), h 4 (by decide) (by decide), h 5 (by decide) (by decide), h 6 (by decide) (by decide), h 7 (by decide) (by decide), h 8 (by decide) (by decide), h 9 (by decide) (by decide), h 10 (by decide) (by decide), h 11 (by decide) (by decide), h 12 (by decide) (by decide), h 13 (by decide) (by decide), h 14 (by decide) (by decide), h 15 (by decide) (by decide), h 16 (by decide) (by decide), h 17 (by decide) (by decide), h 18 (by decide) (by decide), h 19 (by decide) (by decide), h 20 (by decide) (by decide), h 21 (by decide) (by decide), h 22 (by decide) (by decide), h 23 (by decide) (by decide)]
  exact x
theorem iC_c {μ ν : MU} {sq : Int → Int} {y : Int} (h : hSt μ ν) (x : iC μ sq y) : iC ν sq y := by
  unfold iC xGr at *
  simp only [h 1 (by decide) (by decide), h 2 (by decide) (by decide), h 3 (by decide) (by decide), h 4 (by decide) (by decide), h 5 (by decide) (by decide), h 6 (by decide) (by decide), h 7 (by decide) (by decide), h 8 (by decide) (by decide), h 9 (by decide) (by decide), h 10 (by decide) (by decide), h 11 (by decide) (by decide), h 12 (by decide) (by decide), h 13 (by decide) (by decide), h 14 (by decide) (by decide), h 15 (by decide) (by decide), h 16 (by decide) (by decide), h 17 (by decide) (by decide), h 18 (by decide) (by decide), h 19 (by decide) (by decide), h 20 (by decide) (by decide), h 21 (by decide) (by decide), h 22 (by decide) (by decide), h 23 (by decide) (by decide)]
  exact x
def xOn (μ : MU) (e y : Int) : Int := if y ≤ (μ 14) e then (μ 11) e else if (μ 15) e ≤ y then (μ 12) e else (μ 22) e + y - (μ 14) e - 1
def xSpot (μ : MU) (pl : Int → Int) (e y : Int) : Int := 8 * pl (xOn μ e y) + (if y = (μ 14) e then (if (μ 10) e = 1 then (μ 7) e else (μ 6) e) else if y = (μ 15) e then (if (μ 10) e = 1 then (μ 6) e else (μ 7) e) else 0)
def xX (μ : MU) (pl : Int → Int) (y e o : Int) : Int := if ((μ 14) e ≤ y ∧ y < (μ 15) e) ∧ ((μ 14) o ≤ y ∧ y < (μ 15) o) ∧ (xSpot μ pl e y - xSpot μ pl o y) * (xSpot μ pl e (y + 1) - xSpot μ pl o (y + 1)) < 0 then 1 else 0
def xCb (μ : MU) (pl : Int → Int) (y : Int) : Int := gSum (fun e => gSum (fun o => xX μ pl y e o) e.toNat) (μ 1 1).toNat
def xCa (μ : MU) (pl : Int → Int) : Int := gSum (fun y => xCb μ pl y) ((μ 9 1) - 1).toNat
theorem xOn_c {μ ν : MU} (h : hSt μ ν) : xOn ν = xOn μ := by
  funext e y
  unfold xOn
  simp only [h 1 (by decide) (by decide), h 2 (by decide) (by decide), h 3 (by decide) (by decide), h 4 (by decide) (by decide), h 5 (by decide) (by decide), h 6 (by decide) (by decide), h 7 (by decide) (by decide), h 8 (by decide) (by decide), h 9 (by decide) (by decide), h 10 (by decide) (by decide), h 11 (by decide) (by decide), h 12 (by decide) (by decide), h 13 (by decide) (by decide), h 14 (by decide) (by decide), h 15 (by decide) (by decide), h 16 (by decide) (by decide), h 17 (by decide) (by decide), h 18 (by decide) (by decide), h 19 (by decide) (by decide), h 20 (by decide) (by decide), h 21 (by decide) (by decide), h 22 (by decide) (by decide), h 23 (by decide) (by decide)]
theorem xSpot_c {μ ν : MU} (h : hSt μ ν) : xSpot ν = xSpot μ := by
  funext pl e y
  unfold xSpot
  simp only [h 1 (by decide) (by decide), h 2 (by decide) (by decide), h 3 (by decide) (by decide), h 4 (by decide) (by decide), h 5 (by decide) (by decide), h 6 (by decide) (by decide), h 7 (by decide) (by decide), h 8 (by decide) (by decide), h 9 (by decide) (by decide), h 10 (by decide) (by decide), h 11 (by decide) (by decide), h 12 (by decide) (by decide), h 13 (by decide) (by decide), h 14 (by decide) (by decide), h 15 (by decide) (by decide), h 16 (by decide) (by decide), h 17 (by decide) (by decide), h 18 (by decide) (by decide), h 19 (by decide) (by decide), h 20 (by decide) (by decide), h 21 (by decide) (by decide), h 22 (by decide) (by decide), h 23 (by decide) (by decide), xOn_c h]
theorem xX_c {μ ν : MU} (h : hSt μ ν) : xX ν = xX μ := by
  funext pl y e o
  unfold xX
  simp only [h 1 (by decide) (by decide), h 2 (by decide) (by decide), h 3 (by decide) (by decide), h 4 (by decide) (by decide), h 5 (by decide) (by decide), h 6 (by decide) (by decide), h 7 (by decide) (by decide), h 8 (by decide) (by decide), h 9 (by decide) (by decide), h 10 (by decide) (by decide), h 11 (by decide) (by decide), h 12 (by decide) (by decide), h 13 (by decide) (by decide), h 14 (by decide) (by decide), h 15 (by decide) (by decide), h 16 (by decide) (by decide), h 17 (by decide) (by decide), h 18 (by decide) (by decide), h 19 (by decide) (by decide), h 20 (by decide) (by decide), h 21 (by decide) (by decide), h 22 (by decide) (by decide), h 23 (by decide) (by decide), xSpot_c h]
theorem xCb_c {μ ν : MU} (h : hSt μ ν) : xCb ν = xCb μ := by
  funext pl y
  unfold xCb
  simp only [h 1 (by decide) (by decide), h 2 (by decide) (by decide), h 3 (by decide) (by decide), h 4 (by decide) (by decide), h 5 (by decide) (by decide), h 6 (by decide) (by decide), h 7 (by decide) (by decide), h 8 (by decide) (by decide), h 9 (by decide) (by decide), h 10 (by decide) (by decide), h 11 (by decide) (by decide), h 12 (by decide) (by decide), h 13 (by decide) (by decide), h 14 (by decide) (by decide), h 15 (by decide) (by decide), h 16 (by decide) (by decide), h 17 (by decide) (by decide), h 18 (by decide) (by decide), h 19 (by decide) (by decide), h 20 (by decide) (by decide), h 21 (by decide) (by decide), h 22 (by decide) (by decide), h 23 (by decide) (by decide), xX_c h]
theorem xCa_c {μ ν : MU} (h : hSt μ ν) : xCa ν = xCa μ := by
  funext pl
  unfold xCa
  simp only [h 1 (by decide) (by decide), h 2 (by decide) (by decide), h 3 (by decide) (by decide), h 4 (by decide) (by decide), h 5 (by decide) (by decide), h 6 (by decide) (by decide), h 7 (by decide) (by decide), h 8 (by decide) (by decide), h 9 (by decide) (by decide), h 10 (by decide) (by decide), h 11 (by decide) (by decide), h 12 (by decide) (by decide), h 13 (by decide) (by decide), h 14 (by decide) (by decide), h 15 (by decide) (by decide), h 16 (by decide) (by decide), h 17 (by decide) (by decide), h 18 (by decide) (by decide), h 19 (by decide) (by decide), h 20 (by decide) (by decide), h 21 (by decide) (by decide), h 22 (by decide) (by decide), h 23 (by decide) (by decide), xCb_c h]
theorem xGr_c {μ ν : MU} (h : hSt μ ν) : xGr ν = xGr μ := by
  funext v
  unfold xGr
  simp only [h 1 (by decide) (by decide), h 2 (by decide) (by decide), h 3 (by decide) (by decide), h 4 (by decide) (by decide), h 5 (by decide) (by decide), h 6 (by decide) (by decide), h 7 (by decide) (by decide), h 8 (by decide) (by decide), h 9 (by decide) (by decide), h 10 (by decide) (by decide), h 11 (by decide) (by decide), h 12 (by decide) (by decide), h 13 (by decide) (by decide), h 14 (by decide) (by decide), h 15 (by decide) (by decide), h 16 (by decide) (by decide), h 17 (by decide) (by decide), h 18 (by decide) (by decide), h 19 (by decide) (by decide), h 20 (by decide) (by decide), h 21 (by decide) (by decide), h 22 (by decide) (by decide), h 23 (by decide) (by decide)]
theorem xWd_c {μ ν : MU} (h : hSt μ ν) : xWd ν = xWd μ := by
  funext v
  unfold xWd
  simp only [h 1 (by decide) (by decide), h 2 (by decide) (by decide), h 3 (by decide) (by decide), h 4 (by decide) (by decide), h 5 (by decide) (by decide), h 6 (by decide) (by decide), h 7 (by decide) (by decide), h 8 (by decide) (by decide), h 9 (by decide) (by decide), h 10 (by decide) (by decide), h 11 (by decide) (by decide), h 12 (by decide) (by decide), h 13 (by decide) (by decide), h 14 (by decide) (by decide), h 15 (by decide) (by decide), h 16 (by decide) (by decide), h 17 (by decide) (by decide), h 18 (by decide) (by decide), h 19 (by decide) (by decide), h 20 (by decide) (by decide), h 21 (by decide) (by decide), h 22 (by decide) (by decide), h 23 (by decide) (by decide)]
theorem xOn_v {μ : MU} (hG : iG μ) (hL : iL μ) (hN : iN μ) {e y : Int} (h0 : 0 ≤ e) (h1 : e < (μ 1 1)) (y0 : (μ 14) e ≤ y) (y1 : y ≤ (μ 15) e) : (0 ≤ xOn μ e y ∧ xOn μ e y < (μ 19 2)) ∧ (μ 21) (xOn μ e y) = y ∧ (μ 20) (xOn μ e y) = if (μ 14) e = y then (μ 11) e else if (μ 15) e = y then (μ 12) e else 100 + 40 * e + y := by
  have E := iE hG hL h0 h1
  have F := iN_fb hG hL hN h0 h1
  have V := hN.1
  unfold xOn
  by_cases c1 : y ≤ (μ 14) e
  · have e1 : (μ 14) e = y := by omega
    have a := hN.2.2.2.1 ((μ 11) e) E.1.1 E.1.2
    rw [if_pos c1, if_pos e1]
    exact ⟨by omega, by omega, a.1⟩
  · by_cases c2 : (μ 15) e ≤ y
    · have e1 : (μ 15) e = y := by omega
      have a := hN.2.2.2.1 ((μ 12) e) E.2.1.1 E.2.1.2
      rw [if_neg c1, if_pos c2, if_neg (by omega), if_pos e1]
      exact ⟨by omega, by omega, a.1⟩
    · have a := hN.2.2.2.2.1 e y h0 h1 (by omega) (by omega)
      rw [if_neg c1, if_neg c2, if_neg (by omega), if_neg (by omega)]
      exact ⟨by omega, a.2, a.1⟩
theorem xSpot_b {μ : MU} {sq pl : Int → Int} (hG : iG μ) (hL : iL μ) (hN : iN μ) (hO : iO μ sq pl) {e y : Int} (h0 : 0 ≤ e) (h1 : e < (μ 1 1)) (y0 : (μ 14) e ≤ y) (y1 : y ≤ (μ 15) e) : 0 ≤ xSpot μ pl e y ∧ xSpot μ pl e y < 480 := by
  have E := xOn_v hG hL hN h0 h1 y0 y1
  have a := (iO_v hG hL hN hO E.1.1 E.1.2).2.1
  have g := hG.2.2 e h0 h1
  unfold xSpot
  repeat' split
  all_goals omega
theorem g_prod {a b : Int} : a * b < 0 ↔ (a < 0 ∧ 0 < b) ∨ (0 < a ∧ b < 0) := by
  constructor
  · intro h
    rcases Int.lt_trichotomy a 0 with h1 | h1 | h1
    · rcases Int.lt_trichotomy b 0 with h2 | h2 | h2
      · have := Int.mul_pos_of_neg_of_neg h1 h2; omega
      · rw [h2, Int.mul_zero] at h; omega
      · exact Or.inl ⟨h1, h2⟩
    · rw [h1, Int.zero_mul] at h; omega
    · rcases Int.lt_trichotomy b 0 with h2 | h2 | h2
      · exact Or.inr ⟨h1, h2⟩
      · rw [h2, Int.mul_zero] at h; omega
      · have := Int.mul_pos h1 h2; omega
  · rintro (⟨h1, h2⟩ | ⟨h1, h2⟩)
    · exact Int.mul_neg_of_neg_of_pos h1 h2
    · exact Int.mul_neg_of_pos_of_neg h1 h2
theorem xX_b {μ : MU} {pl : Int → Int} {y e o : Int} : 0 ≤ xX μ pl y e o ∧ xX μ pl y e o ≤ 1 := by
  unfold xX
  split <;> omega
theorem xCb_b {μ : MU} {pl : Int → Int} (hG : iG μ) (y : Int) : 0 ≤ xCb μ pl y ∧ xCb μ pl y ≤ 400 := by
  have G := hG.1
  have a := gSum_b (f := fun e => gSum (fun o => xX μ pl y e o) e.toNat) (a := 0) (b := 20) (μ 1 1).toNat (fun i i0 i1 => by
    have b := gSum_b (f := fun o => xX μ pl y i o) (a := 0) (b := 1) i.toNat (fun j _ _ => xX_b)
    omega)
  unfold xCb
  omega
theorem xCa_b {μ : MU} {pl : Int → Int} (hG : iG μ) (k : Nat) : 0 ≤ gSum (fun y => xCb μ pl y) k ∧ gSum (fun y => xCb μ pl y) k ≤ 400 * k := by
  have a := gSum_b (f := fun y => xCb μ pl y) (a := 0) (b := 400) k (fun i i0 i1 => xCb_b hG i)
  omega
theorem g_mulb {a b : Int} (h0 : -480 ≤ a ∧ a ≤ 480) (h1 : -480 ≤ b ∧ b ≤ 480) : gOk (a * b) := by
  have h2 : (a * b).natAbs = a.natAbs * b.natAbs := Int.natAbs_mul a b
  have h3 : a.natAbs * b.natAbs ≤ 480 * 480 := Nat.mul_le_mul (by omega) (by omega)
  constructor <;> omega
