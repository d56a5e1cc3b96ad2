variable {sN : Int} {sX : Int → Int}
/-! THE SHAPES after the law's two constructors, and what the law's loop wants -/
def g_SH : SH := [(6, 7, [some (gR 1), some (gR 9), some (gR 19), some (gR 33), some (gR 36), some (gR 38), none]),
  (1, 9, [none, none, some (gR 2), some (gR 3), some (gR 4), some (gR 5), some (gR 6), some (gR 7), some (gR 8)]), (100, 12, []), (100, 12, []), (100, 20, []), (100, 20, []), (100, 20, []), (100, 20, []), (100, 20, []),
  (2, 11, [some (gR 1), none, some (gR 10), some (gR 11), some (gR 12), some (gR 13), some (gR 14), some (gR 15), some (gR 16), some (gR 17), some (gR 18)]), (101, 20, []), (100, 20, []), (100, 20, []), (100, 12, []), (100, 20, []), (100, 20, []), (100, 12, []), (100, 20, []), (100, 12, []),
  (3, 16, [some (gR 1), some (gR 9), none, some (gR 20), some (gR 21), some (gR 22), some (gR 23), some (gR 24), some (gR 25), some (gR 26), some (gR 27), some (gR 28), some (gR 29), some (gR 30), some (gR 31), some (gR 32)]), (100, 60, []), (100, 60, []), (100, 20, []), (100, 35, []), (100, 60, []), (100, 60, []), (100, 60, []), (100, 60, []), (100, 60, []), (100, 60, []), (100, 60, []), (100, 20, []), (100, 20, []),
  (0, 5, [some (gR 1), some (gR 9), some (gR 19), some (gR 34), some (gR 35)]), (100, 60, []), (100, 20, []),
  (5, 9, [some (gR 37), none, none, none, none, none, none, none, none]), (102, 100, []),
  (103, 2, [some (gR 39), some (gR 50)]),
  (4, 5, [none, none, some (gR 40), some (gR 48), some (gR 49)]), (1, 9, [none, none, some (gR 41), some (gR 42), some (gR 43), some (gR 44), some (gR 45), some (gR 46), some (gR 47)]), (100, 12, []), (100, 12, []), (100, 20, []), (100, 20, []), (100, 20, []), (100, 20, []), (100, 20, []), (100, 60, []), (100, 60, []),
  (4, 5, [none, none, some (gR 51), some (gR 59), some (gR 60)]), (1, 9, [none, none, some (gR 52), some (gR 53), some (gR 54), some (gR 55), some (gR 56), some (gR 57), some (gR 58)]), (100, 12, []), (100, 12, []), (100, 20, []), (100, 20, []), (100, 20, []), (100, 20, []), (100, 20, []), (100, 60, []), (100, 60, []),
  (100, 12, []), (100, 12, [])]
def gFr (l : List Nat) (μ ν : MU) : Prop := ∀ c, c ∉ l → ν c = μ c
theorem gFr.rf {l : List Nat} {μ : MU} : gFr l μ μ := fun _ _ => rfl
theorem gFr.tr {l : List Nat} {μ ν ρ : MU} (h : gFr l μ ν) (h' : gFr l ν ρ) : gFr l μ ρ := fun c hc => (h' c hc).trans (h c hc)
theorem gFr.W {l : List Nat} {μ ν : MU} {a : Nat} {i v : Int} (h : gFr l μ ν) (ha : a ∈ l) : gFr l μ (gW ν a i v) := fun c hc => by
  have hn : c ≠ a := fun e => hc (e ▸ ha)
  rw [← h c hc]
  show (if c = a then _ else _) = _
  rw [if_neg hn]
theorem gFr.mo {l l' : List Nat} {μ ν : MU} (h : gFr l μ ν) (hl : ∀ c ∈ l, c ∈ l') : gFr l' μ ν := fun c hc => h c (fun h1 => hc (hl c h1))
theorem g_up {P : Int → Prop} {lo hi : Int} (hs : ∀ i, lo ≤ i → i < hi → P (i + 1) → P i) (hb : P hi) : ∀ i, lo ≤ i → i ≤ hi → P i := by
  have h : ∀ (n : Nat) (i : Int), i + n = hi → lo ≤ i → P i := by
    intro n
    induction n with
    | zero => intro i h0 _; have : i = hi := by omega
              rw [this]; exact hb
    | succ n ih => intro i h0 h1; exact hs i h1 (by omega) (ih (i + 1) (by omega) (by omega))
  intro i h0 h1
  exact h (hi - i).toNat i (by omega) h0
theorem g_dn {P : Int → Prop} {lo hi : Int} (hs : ∀ i, lo < i → i ≤ hi → P (i - 1) → P i) (hb : P lo) : ∀ i, lo ≤ i → i ≤ hi → P i := by
  have h : ∀ (n : Nat) (i : Int), i = lo + n → i ≤ hi → P i := by
    intro n
    induction n with
    | zero => intro i h0 _; have : i = lo := by omega
              rw [this]; exact hb
    | succ n ih => intro i h0 h1; exact hs i (by omega) h1 (ih (i - 1) (by omega) (by omega))
  intro i h0 h1
  exact h (i - lo).toNat i (by omega) h1
theorem gD {D : Nat} (h : 1 ≤ D) : ∃ d, D = d + 1 := ⟨D - 1, by omega⟩
theorem gWe (μ : MU) (a : Nat) (i v : Int) : gW μ a i v a i = v := by simp [gW]
theorem gWn (μ : MU) (a : Nat) {i j : Int} (v : Int) (h : j ≠ i) : gW μ a i v a j = μ a j := by simp [gW, h]
/-- sums -/
def gSum (f : Int → Int) : Nat → Int
  | 0 => 0
  | k + 1 => gSum f k + f k
theorem gSum_s (f : Int → Int) (e : Int) (h : 0 ≤ e) : gSum f (e + 1).toNat = gSum f e.toNat + f e := by
  have h1 : (e + 1).toNat = e.toNat + 1 := by omega
  have h2 : ((e.toNat : Nat) : Int) = e := by omega
  rw [h1, gSum, h2]
theorem gSum_c {f g : Int → Int} (n : Nat) (h : ∀ i : Int, 0 ≤ i → i < n → f i = g i) : gSum f n = gSum g n := by
  induction n with
  | zero => rfl
  | succ k ih => rw [gSum, gSum, ih (fun i h0 h1 => h i h0 (by omega)), h k (by omega) (by omega)]
theorem gSum_b {f : Int → Int} {a b : Int} (n : Nat) (h : ∀ i : Int, 0 ≤ i → i < n → a ≤ f i ∧ f i ≤ b) : a * n ≤ gSum f n ∧ gSum f n ≤ b * n := by
  induction n with
  | zero => exact ⟨by show a * 0 ≤ 0; omega, by show 0 ≤ b * 0; omega⟩
  | succ k ih =>
    have h1 := ih (fun i h0 h1 => h i h0 (by omega))
    have h2 := h k (by omega) (by omega)
    have e1 : a * ((k + 1 : Nat) : Int) = a * (k : Int) + a := by rw [Int.natCast_succ, Int.mul_add, Int.mul_one]
    have e2 : b * ((k + 1 : Nat) : Int) = b * (k : Int) + b := by rw [Int.natCast_succ, Int.mul_add, Int.mul_one]
    rw [e1, e2, gSum]
    omega
theorem gO {μ : MU} {a b : Nat} {i v : Int} (h : b ≠ a) : gW μ a i v b = μ b := by
  show (if b = a then _ else _) = _
  rw [if_neg h]
