variable {sN : Int} {sX : Int → Int}
/-! weights, and the sorting by them: the pure side -/
def hPt (μ : MU) (y f e v : Int) : Prop := ((μ 14) e ≤ min y f ∧ min y f < (μ 15) e) ∧ xOn μ e y = v
def hWs (μ : MU) (pl : Int → Int) (y f v : Int) (n : Nat) : Int := gSum (fun e => if ((μ 14) e ≤ min y f ∧ min y f < (μ 15) e) ∧ xOn μ e y = v then xSpot μ pl e f else 0) n
def hWn (μ : MU) (y f v : Int) (n : Nat) : Int := gSum (fun e => if ((μ 14) e ≤ min y f ∧ min y f < (μ 15) e) ∧ xOn μ e y = v then 1 else 0) n
def xW (μ : MU) (pl : Int → Int) (y f v : Int) : Int := if hWn μ y f v (μ 1 1).toNat = 0 then 8 * pl v else hWs μ pl y f v (μ 1 1).toNat
def xN (μ : MU) (y f v : Int) : Int := if hWn μ y f v (μ 1 1).toNat = 0 then 1 else hWn μ y f v (μ 1 1).toNat
theorem hWs_b {μ : MU} {sq pl : Int → Int} (hG : iG μ) (hL : iL μ) (hN : iN μ) (hO : iO μ sq pl) {y f : Int} (hf : f = y - 1 ∨ f = y + 1) (v : Int) {n : Nat} (hn : (n : Int) ≤ (μ 1 1)) : 0 ≤ hWs μ pl y f v n ∧ hWs μ pl y f v n ≤ 480 * n := by
  have a := gSum_b (f := fun e => if ((μ 14) e ≤ min y f ∧ min y f < (μ 15) e) ∧ xOn μ e y = v then xSpot μ pl e f else 0) (a := 0) (b := 480) n (fun e e0 e1 => by
    by_cases c : ((μ 14) e ≤ min y f ∧ min y f < (μ 15) e) ∧ xOn μ e y = v
    · rw [if_pos c]
      have := xSpot_b hG hL hN hO e0 (by omega) (y := f) (by omega) (by omega)
      omega
    · rw [if_neg c]; omega)
  unfold hWs
  omega
theorem hWn_b {μ : MU} {y f : Int} (v : Int) (n : Nat) : 0 ≤ hWn μ y f v n ∧ hWn μ y f v n ≤ n := by
  have a := gSum_b (f := fun e => if ((μ 14) e ≤ min y f ∧ min y f < (μ 15) e) ∧ xOn μ e y = v then 1 else 0) (a := 0) (b := 1) n (fun e e0 e1 => by split <;> omega)
  unfold hWn
  omega
theorem xW_b {μ : MU} {sq pl : Int → Int} (hG : iG μ) (hL : iL μ) (hN : iN μ) (hO : iO μ sq pl) {y f v : Int} (hf : f = y - 1 ∨ f = y + 1) (v0 : 0 ≤ v) (v1 : v < (μ 19 2)) : (0 ≤ xW μ pl y f v ∧ xW μ pl y f v ≤ 9600) ∧ 1 ≤ xN μ y f v ∧ xN μ y f v ≤ 20 := by
  have G := hG.1
  have a := hWs_b hG hL hN hO hf v (n := (μ 1 1).toNat) (by omega)
  have b := hWn_b (μ := μ) (y := y) (f := f) v (μ 1 1).toNat
  have c := (iO_v hG hL hN hO v0 v1).2.1
  unfold xW xN
  split <;> omega
theorem g_mulw {a b : Int} (h0 : 0 ≤ a ∧ a ≤ 9600) (h1 : 0 ≤ b ∧ b ≤ 20) : gOk (a * b) := by
  have h2 : (a * b).natAbs = a.natAbs * b.natAbs := Int.natAbs_mul a b
  have h3 : a.natAbs * b.natAbs ≤ 9600 * 20 := Nat.mul_le_mul (by omega) (by omega)
  constructor <;> omega
theorem hWs_c {μ ν : MU} (h : hSt μ ν) : hWs ν = hWs μ := by
  funext pl y f v n
  unfold hWs
  simp only [h 1 (by decide) (by decide), h 2 (by decide) (by decide), h 3 (by decide) (by decide), h 4 (by decide) (by decide), h 5 (by decide) (by decide), h 6 (by decide) (by decide), h 7 (by decide) (by decide), h 8 (by decide) (by decide), h 9 (by decide) (by decide), h 10 (by decide) (by decide), h 11 (by decide) (by decide), h 12 (by decide) (by decide), h 13 (by decide) (by decide), h 14 (by decide) (by decide), h 15 (by decide) (by decide), h 16 (by decide) (by decide), h 17 (by decide) (by decide), h 18 (by decide) (by decide), h 19 (by decide) (by decide), h 20 (by decide) (by decide), h 21 (by decide) (by decide), h 22 (by decide) (by decide), h 23 (by decide) (by decide), xSpot_c h, xOn_c h]
theorem hWn_c {μ ν : MU} (h : hSt μ ν) : hWn ν = hWn μ := by
  funext y f v n
  unfold hWn
  simp only [h 1 (by decide) (by decide), h 2 (by decide) (by decide), h 3 (by decide) (by decide), h 4 (by decide) (by decide), h 5 (by decide) (by decide), h 6 (by decide) (by decide), h 7 (by decide) (by decide), h 8 (by decide) (by decide), h 9 (by decide) (by decide), h 10 (by decide) (by decide), h 11 (by decide) (by decide), h 12 (by decide) (by decide), h 13 (by decide) (by decide), h 14 (by decide) (by decide), h 15 (by decide) (by decide), h 16 (by decide) (by decide), h 17 (by decide) (by decide), h 18 (by decide) (by decide), h 19 (by decide) (by decide), h 20 (by decide) (by decide), h 21 (by decide) (by decide), h 22 (by decide) (by decide), h 23 (by decide) (by decide), xOn_c h]
theorem xW_c {μ ν : MU} (h : hSt μ ν) : xW ν = xW μ := by
  funext pl y f v
  unfold xW
  rw [hWs_c h, hWn_c h, h 1 (by decide) (by decide)]
theorem xN_c {μ ν : MU} (h : hSt μ ν) : xN ν = xN μ := by
  funext y f v
  unfold xN
  rw [hWn_c h, h 1 (by decide) (by decide)]
/-- a vertex goes down as long as it is the lighter -/
def insF (W N : Int → Int) : Nat → (Int → Int) → Int → Int → Int
  | 0, sq, _ => sq
  | k + 1, sq, i => if W (sq i) * N (sq (i - 1)) < W (sq (i - 1)) * N (sq i) then insF W N k (swS sq (i - 1)) (i - 1) else sq
def srtF (W N sq : Int → Int) (s : Int) : Nat → Int → Int
  | 0 => sq
  | c + 1 => insF W N (c + 1) (srtF W N sq s c) (s + (c + 1))
/-- an order whose places may be others in one layer -/
def iOy (μ : MU) (sq pl : Int → Int) (y : Int) : Prop := ∃ pl' : Int → Int, iO μ sq pl' ∧ ∀ v : Int, 0 ≤ v → v < (μ 19 2) → (μ 21) v ≠ y → pl v = pl' v
theorem iOy_sw {μ : MU} {sq pl : Int → Int} (hG : iG μ) (hL : iL μ) (hN : iN μ) {y i : Int} (hO : iOy μ sq pl y) (y0 : 0 ≤ y) (y1 : y < (μ 9 1)) (i0 : (μ 23) y ≤ i) (i1 : i + 1 < (μ 23) (y + 1)) : iOy μ (swS sq i) pl y := by
  obtain ⟨pl', h1, h2⟩ := hO
  have h := iO_sw hG hL hN h1 y0 y1 (p := i - (μ 23) y) (by omega) (by omega)
  rw [show (μ 23) y + (i - (μ 23) y) = i by omega] at h
  refine ⟨_, h, fun v v0 v1 hv => ?_⟩
  unfold swP
  have a1 := h1.1 y y0 y1 i i0 (by omega)
  have a2 := h1.1 y y0 y1 (i + 1) (by omega) i1
  rw [if_neg (fun e => hv (by rw [e]; exact a1.2.1)), if_neg (fun e => hv (by rw [e]; exact a2.2.1))]
  exact h2 v v0 v1 hv
theorem iOy_ins {μ : MU} {pl : Int → Int} (W N : Int → Int) (hG : iG μ) (hL : iL μ) (hN : iN μ) {y : Int} (y0 : 0 ≤ y) (y1 : y < (μ 9 1)) : ∀ (k : Nat) (sq : Int → Int) (i : Int), iOy μ sq pl y → (μ 23) y + k ≤ i → i < (μ 23) (y + 1) → iOy μ (insF W N k sq i) pl y := by
  intro k
  induction k with
  | zero => intro sq i h _ _; exact h
  | succ k ih =>
    intro sq i h h1 h2
    show iOy μ (if _ then _ else _) pl y
    split
    · exact ih _ _ (iOy_sw hG hL hN h y0 y1 (by omega) (by omega)) (by omega) (by omega)
    · exact h
theorem iOy_srt {μ : MU} {sq pl : Int → Int} (W N : Int → Int) (hG : iG μ) (hL : iL μ) (hN : iN μ) {y : Int} (hO : iO μ sq pl) (y0 : 0 ≤ y) (y1 : y < (μ 9 1)) : ∀ c : Nat, (c = 0 ∨ (μ 23) y + c < (μ 23) (y + 1)) → iOy μ (srtF W N sq ((μ 23) y) c) pl y := by
  intro c
  induction c with
  | zero => intro _; exact ⟨pl, hO, fun _ _ _ _ => rfl⟩
  | succ c ih =>
    intro h
    exact iOy_ins W N hG hL hN y0 y1 (c + 1) _ _ (ih (by omega)) (by omega) (by omega)
/-- a layer is ordered by its weights -/
def swp1 (μ : MU) (y f : Int) (s : GO) : GO := clo2 μ y (srtF (xW μ s.2 y f) (xN μ y f) s.1 ((μ 23) y) ((μ 23) (y + 1) - (μ 23) y - 1).toNat, s.2)
theorem swp1_o {μ : MU} {s : GO} (hG : iG μ) (hL : iL μ) (hN : iN μ) (hO : iO μ s.1 s.2) {y f : Int} (y0 : 0 ≤ y) (y1 : y < (μ 9 1)) : iO μ (swp1 μ y f s).1 (swp1 μ y f s).2 := by
  obtain ⟨pl', h1, h2⟩ := iOy_srt (xW μ s.2 y f) (xN μ y f) hG hL hN hO y0 y1 ((μ 23) (y + 1) - (μ 23) y - 1).toNat (by omega)
  exact clo2_o hG hL hN h1 y0 y1 h2
theorem swp1_k {μ : MU} {s : GO} (hG : iG μ) (hL : iL μ) (hN : iN μ) (hO : iO μ s.1 s.2) {y f : Int} (y0 : 0 ≤ y) (y1 : y < (μ 9 1)) (hC : ∀ z : Int, 0 ≤ z → z < (μ 9 1) → iC μ s.1 z) : ∀ z : Int, 0 ≤ z → z < (μ 9 1) → iC μ (swp1 μ y f s).1 z := by
  intro z z0 z1
  obtain ⟨pl', h1, h2⟩ := iOy_srt (xW μ s.2 y f) (xN μ y f) hG hL hN hO y0 y1 ((μ 23) (y + 1) - (μ 23) y - 1).toNat (by omega)
  by_cases hz : z = y
  · subst hz
    exact (cloS_v hG hL hN h1 z0 z1).2.2.2.2
  · refine iC_o hG hL hN y0 y1 z0 z1 hz ?_
    have same : ∀ k : Int, (μ 23) z ≤ k → k < (μ 23) (z + 1) → ∀ c : Nat, (c = 0 ∨ (μ 23) y + c < (μ 23) (y + 1)) → srtF (xW μ s.2 y f) (xN μ y f) s.1 ((μ 23) y) c k = s.1 k := by
      intro k k0 k1 c
      have out : ¬ ((μ 23) y ≤ k ∧ k < (μ 23) (y + 1)) := fun h => by
        by_cases c : z < y
        · have := iN_mon hG hL hN (y := z + 1) (z := y) (by omega) (by omega) (by omega); omega
        · have := iN_mon hG hL hN (y := y + 1) (z := z) (by omega) (by omega) (by omega); omega
      have ins : ∀ (n : Nat) (sq : Int → Int) (i : Int), (μ 23) y + n ≤ i → i < (μ 23) (y + 1) → insF (xW μ s.2 y f) (xN μ y f) n sq i k = sq k := by
        intro n
        induction n with
        | zero => intro sq i _ _; rfl
        | succ n ih =>
          intro sq i i0 i1
          unfold insF
          split
          · rw [ih _ _ (by omega) (by omega)]
            show (if _ then _ else _) = _
            rw [if_neg (by omega), if_neg (by omega)]
          · rfl
      induction c with
      | zero => intro _; rfl
      | succ c ih =>
        intro h
        show insF _ _ _ _ _ k = _
        rw [ins _ _ _ (by omega) (by omega)]
        exact ih (by omega)
    intro i j k i0 i1 i2 i3
    dsimp only
    rw [same i i0 (by omega) _ (by omega), same j (by omega) (by omega) _ (by omega), same k (by omega) i3 _ (by omega)]
    exact hC z z0 z1 i j k i0 i1 i2 i3
