/-! THE INVARIANT of a run of calls: what holds of the class, of the model, and between them -/
def iG (μ : MU) : Prop := (0 ≤ (μ 1 0) ∧ (μ 1 0) ≤ 12 ∧ 0 ≤ (μ 1 1) ∧ (μ 1 1) ≤ 20) ∧
  (∀ i : Int, 0 ≤ i → i < (μ 1 0) → (1 ≤ (μ 2) i ∧ (μ 2) i ≤ 9) ∧ 0 ≤ (μ 3) i ∧ (μ 3) i ≤ 3) ∧
  ∀ e : Int, 0 ≤ e → e < (μ 1 1) → (0 ≤ (μ 4) e ∧ (μ 4) e < (μ 1 0)) ∧ (0 ≤ (μ 5) e ∧ (μ 5) e < (μ 1 0)) ∧ (μ 4) e ≠ (μ 5) e ∧ (0 ≤ (μ 6) e ∧ (μ 6) e ≤ 7) ∧ (0 ≤ (μ 7) e ∧ (μ 7) e ≤ 7) ∧ 1 ≤ (μ 8) e ∧ (μ 8) e ≤ 3
/-- the model's graph is the class's -/
def iGm (μ : MU) : Prop := ((μ 62 0) = (μ 1 0) ∧ (μ 62 1) = (μ 1 1)) ∧ (∀ i : Int, 0 ≤ i → i < (μ 1 0) → (μ 62) (5 + i) = (μ 2) i ∧ (μ 62) (17 + i) = (μ 3) i) ∧
  ∀ e : Int, 0 ≤ e → e < (μ 1 1) → (μ 62) (29 + 5 * e + 0) = (μ 4) e ∧ (μ 62) (29 + 5 * e + 1) = (μ 5) e ∧ (μ 62) (29 + 5 * e + 2) = (μ 6) e ∧ (μ 62) (29 + 5 * e + 3) = (μ 7) e ∧ (μ 62) (29 + 5 * e + 4) = (μ 8) e
/-- one after another, from 0 on -/
def gFold {S : Type} (g : Int → S → S) : Nat → S → S
  | 0, s => s
  | k + 1, s => g k (gFold g k s)
def gUp (f : Int → Int) (i v : Int) : Int → Int := fun j => if j = i then v else f j
/-- the search in depth: what each node is (0 not seen, 1 begun, 2 ended), which edges are turned -/
abbrev GD : Type := (Int → Int) × (Int → Int)
def gDfs (m : Nat) (src tgt : Int → Int) : Nat → Int → GD → GD
  | 0, _, s => s
  | f + 1, a, s =>
    let r := gFold (fun e (q : GD) => if src e = a then (if q.1 (tgt e) = 0 then gDfs m src tgt f (tgt e) q else if q.1 (tgt e) = 1 then (q.1, gUp q.2 e 1) else q) else q) m (gUp s.1 a 1, s.2)
    (gUp r.1 a 2, r.2)
def gDirs (n m : Nat) (src tgt : Int → Int) : GD := gFold (fun a (q : GD) => if q.1 a = 0 then gDfs m src tgt 12 a q else q) n (fun _ => 0, fun _ => 0)
/-- layers that are possible; their whole length; the lowest of the best -/
def gFea (n m : Int) (up lo ls l : Int → Int) : Prop := (∀ i : Int, 0 ≤ i → i < n → 0 ≤ l i) ∧ ∀ e : Int, 0 ≤ e → e < m → l (up e) + ls e ≤ l (lo e)
def gTot (m : Int) (up lo l : Int → Int) : Int := gSum (fun e => l (lo e) - l (up e)) m.toNat
def gLow (n m : Int) (up lo ls l : Int → Int) : Prop := gFea n m up lo ls l ∧ (∀ q, gFea n m up lo ls q → gTot m up lo l ≤ gTot m up lo q) ∧ ∀ q, gFea n m up lo ls q → gTot m up lo q ≤ gTot m up lo l → ∀ i : Int, 0 ≤ i → i < n → l i ≤ q i
/-- the class's layering -/
def iU (μ : MU) : Prop := ∀ e : Int, 0 ≤ e → e < (μ 1 1) → (μ 10) e = (gDirs (μ 1 0).toNat (μ 1 1).toNat (μ 4) (μ 5)).2 e ∧ (((μ 10) e = 1 ∧ (μ 11) e = (μ 5) e ∧ (μ 12) e = (μ 4) e) ∨ ((μ 10) e = 0 ∧ (μ 11) e = (μ 4) e ∧ (μ 12) e = (μ 5) e))
def iL (μ : MU) : Prop := iU μ ∧ (∀ e : Int, 0 ≤ e → e < (μ 1 1) → (μ 14) e = (μ 13) ((μ 11) e) ∧ (μ 15) e = (μ 13) ((μ 12) e) ∧ (μ 14) e + (μ 8) e ≤ (μ 15) e) ∧
  (∀ i : Int, 0 ≤ i → i < (μ 1 0) → 0 ≤ (μ 13) i ∧ (μ 13) i < (μ 9 1)) ∧ (0 ≤ (μ 9 1) ∧ (μ 9 1) ≤ 34) ∧ ((μ 9 1) = 0 ∨ ∃ i : Int, 0 ≤ i ∧ i < (μ 1 0) ∧ (μ 13) i + 1 = (μ 9 1)) ∧
  gLow (μ 1 0) (μ 1 1) (μ 11) (μ 12) (μ 8) (μ 13)
/-- the numbers of the vertices, and where the layers begin -/
def iN (μ : MU) : Prop := ((μ 1 0) ≤ (μ 19 2) ∧ (μ 19 2) ≤ 60) ∧ (μ 19 2) = (μ 1 0) + gSum (fun j => (μ 15) j - (μ 14) j - 1) (μ 1 1).toNat ∧
  (∀ e : Int, 0 ≤ e → e < (μ 1 1) → (μ 22) e = (μ 1 0) + gSum (fun j => (μ 15) j - (μ 14) j - 1) e.toNat) ∧
  (∀ i : Int, 0 ≤ i → i < (μ 1 0) → (μ 20) i = i ∧ (μ 21) i = (μ 13) i) ∧
  (∀ e y : Int, 0 ≤ e → e < (μ 1 1) → (μ 14) e < y → y < (μ 15) e → (μ 20) ((μ 22) e + y - (μ 14) e - 1) = 100 + 40 * e + y ∧ (μ 21) ((μ 22) e + y - (μ 14) e - 1) = y) ∧
  (μ 23) 0 = 0 ∧ (μ 23) (μ 9 1) = (μ 19 2) ∧ ∀ y : Int, 0 ≤ y → y < (μ 9 1) → (μ 23) (y + 1) = (μ 23) y + gSum (fun v => if (μ 21) v = y then 1 else 0) (μ 19 2).toNat
/-- an order of the vertices, and their places -/
def iO (μ : MU) (sq pl : Int → Int) : Prop := (∀ y : Int, 0 ≤ y → y < (μ 9 1) → ∀ k : Int, (μ 23) y ≤ k → k < (μ 23) (y + 1) → (0 ≤ sq k ∧ sq k < (μ 19 2)) ∧ (μ 21) (sq k) = y ∧ pl (sq k) = k - (μ 23) y) ∧
  ∀ v : Int, 0 ≤ v → v < (μ 19 2) → 0 ≤ pl v ∧ (μ 23) ((μ 21) v) + pl v < (μ 23) ((μ 21) v + 1) ∧ sq ((μ 23) ((μ 21) v) + pl v) = v
def xGr (μ : MU) (v : Int) : Int := if v < (μ 1 0) then (μ 3) v else 0
def xWd (μ : MU) (v : Int) : Int := if v < (μ 1 0) then (μ 2) v else 1
/-- the groups of a layer are closed -/
def iC (μ : MU) (sq : Int → Int) (y : Int) : Prop := ∀ i j k : Int, (μ 23) y ≤ i → i < j → j < k → k < (μ 23) (y + 1) → xGr μ (sq i) ≠ 0 → xGr μ (sq i) = xGr μ (sq k) → xGr μ (sq j) = xGr μ (sq i)
def iD (μ : MU) : Prop := iN μ ∧ iO μ (μ 24) (μ 25) ∧ (∀ y : Int, 0 ≤ y → y < (μ 9 1) → iC μ (μ 24) y) ∧ ∀ v : Int, 0 ≤ v → v < (μ 19 2) → 0 ≤ (μ 34) v ∧ (μ 34) v ≤ 1000
/-- the model's drawing is the class's -/
def iDs (μ : MU) : Prop := ((μ 62 3) = (μ 19 2) ∧ (μ 62 4) = (μ 9 1)) ∧ ∀ y : Int, 0 ≤ y → y ≤ (μ 9 1) → (μ 62) (129 + y) = (μ 23) y
def iDm (μ : MU) : Prop := iDs μ ∧ (∀ k : Int, 0 ≤ k → k < (μ 19 2) → (μ 62) (169 + k) = (μ 20) ((μ 24) k)) ∧ ∀ k : Int, 0 ≤ k → k < (μ 19 2) → (μ 62) (229 + k) = (μ 34) ((μ 24) k)
/-- the class's state, the model's -/
def iA (μ : MU) : Prop := iG μ ∧ iL μ ∧ ((μ 0 6) = 0 ∨ (μ 0 6) = 1) ∧ ((μ 0 6) = 1 → iD μ)
def iB (μ : MU) : Prop := iGm μ ∧ ((μ 62 2) = (μ 0 6) ∧ μ 62 129 = 0) ∧ ((μ 0 6) = 1 → iDm μ)
/-- what the model has found -/
def iFd (μ : MU) : Prop := (∀ i : Int, 0 ≤ i → i < (μ 1 0) → (μ 67) i = (μ 13) i) ∧ ∀ e : Int, 0 ≤ e → e < (μ 1 1) → (μ 66) e = (μ 10) e
def iF (μ : MU) : Prop := ((μ 61 5) = 0 ∨ (μ 61 5) = 1) ∧ ((μ 61 5) = 1 → iFd μ)
def iT (μ : MU) : Prop := (0 ≤ (μ 36 1) ∧ (μ 36 1) ≤ 100) ∧ (μ 61 4) = (μ 36 1) ∧ ∀ k : Int, 0 ≤ k → k < (μ 36 1) → (μ 65) k = (μ 37) k ∧ 32 ≤ (μ 37) k ∧ (μ 37) k ≤ 126
def iS0 (μ : MU) : Prop := ((μ 39 0) = 0 ∨ (μ 39 0) = 1) ∧ (μ 64) 0 = (μ 39 0) ∧ ((μ 39 0) = 1 → ∃ ρ : MU, iA ρ ∧ iB ρ ∧ (∀ k : Int, 0 ≤ k → k < 289 → (μ 63) (0 + k) = (ρ 62) k) ∧ ((μ 40 0) = (ρ 1 0) ∧ (μ 40 1) = (ρ 1 1) ∧ (μ 39 1) = (ρ 0 6)) ∧ (∀ i : Int, 0 ≤ i → i < 12 → (μ 41) i = (ρ 2) i ∧ (μ 42) i = (ρ 3) i) ∧ (∀ e : Int, 0 ≤ e → e < 20 → (μ 43) e = (ρ 4) e ∧ (μ 44) e = (ρ 5) e ∧ (μ 45) e = (ρ 6) e ∧ (μ 46) e = (ρ 7) e ∧ (μ 47) e = (ρ 8) e) ∧ ∀ k : Int, 0 ≤ k → k < 60 → (μ 48) k = (ρ 24) k ∧ (μ 49) k = (ρ 34) k)
def iS1 (μ : MU) : Prop := ((μ 50 0) = 0 ∨ (μ 50 0) = 1) ∧ (μ 64) 1 = (μ 50 0) ∧ ((μ 50 0) = 1 → ∃ ρ : MU, iA ρ ∧ iB ρ ∧ (∀ k : Int, 0 ≤ k → k < 289 → (μ 63) (289 + k) = (ρ 62) k) ∧ ((μ 51 0) = (ρ 1 0) ∧ (μ 51 1) = (ρ 1 1) ∧ (μ 50 1) = (ρ 0 6)) ∧ (∀ i : Int, 0 ≤ i → i < 12 → (μ 52) i = (ρ 2) i ∧ (μ 53) i = (ρ 3) i) ∧ (∀ e : Int, 0 ≤ e → e < 20 → (μ 54) e = (ρ 4) e ∧ (μ 55) e = (ρ 5) e ∧ (μ 56) e = (ρ 6) e ∧ (μ 57) e = (ρ 7) e ∧ (μ 58) e = (ρ 8) e) ∧ ∀ k : Int, 0 ≤ k → k < 60 → (μ 59) k = (ρ 24) k ∧ (μ 60) k = (ρ 34) k)
def iAll (μ : MU) : Prop := iA μ ∧ iB μ ∧ iF μ ∧ iT μ ∧ iS0 μ ∧ iS1 μ
