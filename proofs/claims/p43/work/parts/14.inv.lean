variable {sN : Int} {sX : Int → Int}
/-! THE INVARIANT of a run of calls: what holds of the class, of the model, and between them -/
def iG (μ : MU) : Prop := (0 ≤ (μ 1 0) ∧ (μ 1 0) ≤ 12 ∧ 0 ≤ (μ 1 1) ∧ (μ 1 1) ≤ 20) ∧
  (∀ i : Int, 0 ≤ i → i < (μ 1 0) → (1 ≤ (μ 2) i ∧ (μ 2) i ≤ 9) ∧ 0 ≤ (μ 3) i ∧ (μ 3) i ≤ 3) ∧
  ∀ e : Int, 0 ≤ e → e < (μ 1 1) → (0 ≤ (μ 4) e ∧ (μ 4) e < (μ 1 0)) ∧ (0 ≤ (μ 5) e ∧ (μ 5) e < (μ 1 0)) ∧ (μ 4) e ≠ (μ 5) e ∧ (0 ≤ (μ 6) e ∧ (μ 6) e ≤ 7) ∧ (0 ≤ (μ 7) e ∧ (μ 7) e ≤ 7) ∧ 1 ≤ (μ 8) e ∧ (μ 8) e ≤ 3
/-- one after another, from 0 on -/
def gFold {S : Type} (g : Int → S → S) : Nat → S → S
  | 0, s => s
  | k + 1, s => g k (gFold g k s)
def gUp (f : Int → Int) (i v : Int) : Int → Int := fun j => if j = i then v else f j
/-- the search in depth: what each node is (0 not seen, 1 begun, 2 ended), which edges are turned -/
abbrev GD : Type := (Int → Int) × (Int → Int)
def gDfs (m : Nat) (src tgt : Int → Int) : Nat → Int → GD → GD
  | 0, _, s => s
  | f + 1, a, s =>
    let r := gFold (fun e (q : GD) => if src e = a then (if q.1 (tgt e) = 0 then gDfs m src tgt f (tgt e) q else if q.1 (tgt e) = 1 then (q.1, gUp q.2 e 1) else q) else q) m (gUp s.1 a 1, s.2)
    (gUp r.1 a 2, r.2)
def gDirs (n m : Nat) (src tgt : Int → Int) : GD := gFold (fun a (q : GD) => if q.1 a = 0 then gDfs m src tgt 12 a q else q) n (fun _ => 0, fun _ => 0)
/-- layers that are possible; their whole length; the lowest of the best -/
def gFea (n m : Int) (up lo ls l : Int → Int) : Prop := (∀ i : Int, 0 ≤ i → i < n → 0 ≤ l i) ∧ ∀ e : Int, 0 ≤ e → e < m → l (up e) + ls e ≤ l (lo e)
def gTot (m : Int) (up lo l : Int → Int) : Int := gSum (fun e => l (lo e) - l (up e)) m.toNat
def gLow (n m : Int) (up lo ls l : Int → Int) : Prop := gFea n m up lo ls l ∧ (∀ q, gFea n m up lo ls q → gTot m up lo l ≤ gTot m up lo q) ∧ ∀ q, gFea n m up lo ls q → gTot m up lo q ≤ gTot m up lo l → ∀ i : Int, 0 ≤ i → i < n → l i ≤ q i
/-- the class's layering -/
def iU (μ : MU) : Prop := ∀ e : Int, 0 ≤ e → e < (μ 1 1) → (μ 10) e = (gDirs (μ 1 0).toNat (μ 1 1).toNat (μ 4) (μ 5)).2 e ∧ (((μ 10) e = 1 ∧ (μ 11) e = (μ 5) e ∧ (μ 12) e = (μ 4) e) ∨ ((μ 10) e = 0 ∧ (μ 11) e = (μ 4) e ∧ (μ 12) e = (μ 5) e))
def iL (μ : MU) : Prop := iU μ ∧ (∀ e : Int, 0 ≤ e → e < (μ 1 1) → (μ 14) e = (μ 13) ((μ 11) e) ∧ (μ 15) e = (μ 13) ((μ 12) e) ∧ (μ 14) e + (μ 8) e ≤ (μ 15) e) ∧
  (∀ i : Int, 0 ≤ i → i < (μ 1 0) → 0 ≤ (μ 13) i ∧ (μ 13) i < (μ 9 1)) ∧ (0 ≤ (μ 9 1) ∧ (μ 9 1) ≤ 34) ∧ ((μ 9 1) = 0 ∨ ∃ i : Int, 0 ≤ i ∧ i < (μ 1 0) ∧ (μ 13) i + 1 = (μ 9 1)) ∧
  gLow (μ 1 0) (μ 1 1) (μ 11) (μ 12) (μ 8) (μ 13)
/-- the numbers of the vertices, and where the layers begin -/
def iN (μ : MU) : Prop := ((μ 1 0) ≤ (μ 19 2) ∧ (μ 19 2) ≤ 60) ∧ (μ 19 2) = (μ 1 0) + gSum (fun j => (μ 15) j - (μ 14) j - 1) (μ 1 1).toNat ∧
  (∀ e : Int, 0 ≤ e → e < (μ 1 1) → (μ 22) e = (μ 1 0) + gSum (fun j => (μ 15) j - (μ 14) j - 1) e.toNat) ∧
  (∀ i : Int, 0 ≤ i → i < (μ 1 0) → (μ 20) i = i ∧ (μ 21) i = (μ 13) i) ∧
  (∀ e y : Int, 0 ≤ e → e < (μ 1 1) → (μ 14) e < y → y < (μ 15) e → (μ 20) ((μ 22) e + y - (μ 14) e - 1) = 100 + 40 * e + y ∧ (μ 21) ((μ 22) e + y - (μ 14) e - 1) = y) ∧
  (μ 23) 0 = 0 ∧ (μ 23) (μ 9 1) = (μ 19 2) ∧ ∀ y : Int, 0 ≤ y → y < (μ 9 1) → (μ 23) (y + 1) = (μ 23) y + gSum (fun v => if (μ 21) v = y then 1 else 0) (μ 19 2).toNat
/-- an order of the vertices, and their places -/
def iO (μ : MU) (sq pl : Int → Int) : Prop := (∀ y : Int, 0 ≤ y → y < (μ 9 1) → ∀ k : Int, (μ 23) y ≤ k → k < (μ 23) (y + 1) → (0 ≤ sq k ∧ sq k < (μ 19 2)) ∧ (μ 21) (sq k) = y ∧ pl (sq k) = k - (μ 23) y) ∧
  ∀ v : Int, 0 ≤ v → v < (μ 19 2) → 0 ≤ pl v ∧ (μ 23) ((μ 21) v) + pl v < (μ 23) ((μ 21) v + 1) ∧ sq ((μ 23) ((μ 21) v) + pl v) = v
def xGr (μ : MU) (v : Int) : Int := if v < (μ 1 0) then (μ 3) v else 0
def xWd (μ : MU) (v : Int) : Int := if v < (μ 1 0) then (μ 2) v else 1
/-- the groups of a layer are closed -/
def iC (μ : MU) (sq : Int → Int) (y : Int) : Prop := ∀ i j k : Int, (μ 23) y ≤ i → i < j → j < k → k < (μ 23) (y + 1) → xGr μ (sq i) ≠ 0 → xGr μ (sq i) = xGr μ (sq k) → xGr μ (sq j) = xGr μ (sq i)
def iD (μ : MU) : Prop := iN μ ∧ iO μ (μ 24) (μ 25) ∧ (∀ y : Int, 0 ≤ y → y < (μ 9 1) → iC μ (μ 24) y) ∧ ∀ v : Int, 0 ≤ v → v < (μ 19 2) → 0 ≤ (μ 34) v ∧ (μ 34) v ≤ 1000
/-- the class's state, the model's -/
def iA (μ : MU) : Prop := iG μ ∧ iL μ ∧ ((μ 0 6) = 0 ∨ (μ 0 6) = 1) ∧ ((μ 0 6) = 1 → iD μ)
