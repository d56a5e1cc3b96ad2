variable {sN : Int} {sX : Int → Int}
/-! THE DIRECTIONS: the search in depth leaves no circle -/
theorem gSum_l {f g : Int → Int} (n : Nat) (h : ∀ i : Int, 0 ≤ i → i < n → f i ≤ g i) : gSum f n ≤ gSum g n := by
  induction n with
  | zero => exact Int.le_refl _
  | succ k ih =>
    have a := ih (fun i h0 h1 => h i h0 (by omega))
    have b := h k (by omega) (by omega)
    rw [gSum, gSum]
    omega
theorem gSum_u {f g : Int → Int} {a : Int} (a0 : 0 ≤ a) (h : ∀ i : Int, i ≠ a → f i = g i) (n : Nat) (a1 : a < n) : gSum f n = gSum g n - g a + f a := by
  have low : ∀ k : Nat, (k : Int) ≤ a → gSum f k = gSum g k := fun k hk => gSum_c k (fun i _ i1 => h i (by omega))
  induction n with
  | zero => omega
  | succ k ih =>
    rw [gSum, gSum]
    by_cases hc : a = k
    · rw [low k (by omega), ← hc]
      omega
    · rw [ih (by omega), h k (by omega)]
      omega
theorem gSum_lx {f g : Int → Int} {a w : Int} (n : Nat) (h : ∀ i : Int, 0 ≤ i → i < n → f i ≤ g i) (a0 : 0 ≤ a) (a1 : a < n) (hw : f a + w ≤ g a) : gSum f n + w ≤ gSum g n := by
  have e := gSum_u (f := gUp f a (f a + w)) (g := f) a0 (fun i hi => if_neg hi) n a1
  have e1 : gUp f a (f a + w) a = f a + w := if_pos rfl
  have := gSum_l (f := gUp f a (f a + w)) (g := g) n (fun i i0 i1 => by
    by_cases hc : i = a
    · rw [hc, e1]; exact hw
    · rw [show gUp f a (f a + w) i = f i from if_neg hc]; exact h i i0 i1)
  omega
theorem gUp_e {f : Int → Int} {a v : Int} : gUp f a v a = v := if_pos rfl
theorem gUp_n {f : Int → Int} {a v i : Int} (h : i ≠ a) : gUp f a v i = f i := if_neg h
/-- how many have this value -/
def gCn (p : Int → Int) (k n : Int) : Int := gSum (fun i => if p i = k then 1 else 0) n.toNat
theorem gCn_b {p : Int → Int} {k n : Int} (hn : 0 ≤ n) : 0 ≤ gCn p k n ∧ gCn p k n ≤ n := by
  have := gSum_b (f := fun i => if p i = k then (1 : Int) else 0) (a := 0) (b := 1) n.toNat (fun i _ _ => by
    show (0 : Int) ≤ (if p i = k then 1 else 0) ∧ (if p i = k then (1 : Int) else 0) ≤ 1
    split <;> omega)
  unfold gCn
  omega
theorem gCn_u {p : Int → Int} {a w k n : Int} (a0 : 0 ≤ a) (a1 : a < n) : gCn (gUp p a w) k n = gCn p k n - (if p a = k then 1 else 0) + (if w = k then 1 else 0) := by
  unfold gCn
  rw [gSum_u (f := fun i => if gUp p a w i = k then (1 : Int) else 0) (g := fun i => if p i = k then (1 : Int) else 0) a0 (fun i hi => by
    show (if gUp p a w i = k then (1 : Int) else 0) = _
    rw [gUp_n hi]) n.toNat (by omega)]
  show _ - _ + (if gUp p a w a = k then (1 : Int) else 0) = _
  rw [gUp_e]
theorem gCn_l {p q : Int → Int} {k n : Int} (h : ∀ i : Int, 0 ≤ i → i < n → p i = k → q i = k) : gCn p k n ≤ gCn q k n := gSum_l _ (fun i i0 i1 => by
  show (if p i = k then (1 : Int) else 0) ≤ (if q i = k then 1 else 0)
  by_cases hc : p i = k
  · rw [if_pos hc, if_pos (h i i0 (by omega) hc)]; omega
  · rw [if_neg hc]; split <;> omega)
theorem gCn_p {p : Int → Int} {k n a : Int} (a0 : 0 ≤ a) (a1 : a < n) (h : p a = k) : 1 ≤ gCn p k n := by
  have := gSum_lx (f := fun _ => 0) (g := fun i => if p i = k then (1 : Int) else 0) (a := a) (w := 1) n.toNat (fun i _ _ => by show (0 : Int) ≤ (if p i = k then 1 else 0); split <;> omega) a0 (by omega) (by show (0 : Int) + 1 ≤ (if p a = k then 1 else 0); rw [if_pos h]; omega)
  have z : gSum (fun _ => 0) n.toNat = 0 := by
    have := gSum_b (f := fun _ => 0) (a := 0) (b := 0) n.toNat (fun _ _ _ => ⟨Int.le_refl _, Int.le_refl _⟩)
    omega
  unfold gCn
  omega
theorem gFold_i {S : Type} {g : Int → S → S} {s : S} (P : Nat → S → Prop) {m : Nat} (h0 : P 0 s) (hs : ∀ (k : Nat) (q : S), k < m → P k q → P (k + 1) (g k q)) : ∀ k : Nat, k ≤ m → P k (gFold g k s) := by
  intro k
  induction k with
  | zero => intro _; exact h0
  | succ k ih => intro hk; exact hs k _ (by omega) (ih (by omega))
/-- what holds between the steps of the search -/
def dInv (n m : Int) (src tgt : Int → Int) (s : GD) (fin : Int → Int) : Prop := (∀ i : Int, 0 ≤ i → i < n → s.1 i = 0 ∨ s.1 i = 1 ∨ s.1 i = 2) ∧
  (∀ i : Int, 0 ≤ i → i < n → s.1 i = 2 → 0 ≤ fin i ∧ fin i < gCn s.1 2 n) ∧
  ∀ e : Int, 0 ≤ e → e < m → (s.2 e = 0 ∨ s.2 e = 1) ∧ (s.1 (src e) = 0 → s.2 e = 0) ∧
    (s.1 (src e) = 2 → (s.2 e = 0 ∧ s.1 (tgt e) = 2 ∧ fin (tgt e) < fin (src e)) ∨ (s.2 e = 1 ∧ (s.1 (tgt e) = 1 ∨ (s.1 (tgt e) = 2 ∧ fin (src e) < fin (tgt e)))))
def dRel (n m : Int) (src : Int → Int) (s q : GD) : Prop := (∀ i : Int, 0 ≤ i → i < n → s.1 i ≠ 0 → q.1 i = s.1 i) ∧ (∀ i : Int, 0 ≤ i → i < n → s.1 i = 0 → q.1 i = 0 ∨ q.1 i = 2) ∧
  ∀ e : Int, 0 ≤ e → e < m → s.1 (src e) ≠ 0 → q.2 e = s.2 e
def dE (n m : Int) (src tgt : Int → Int) : Prop := ∀ e : Int, 0 ≤ e → e < m → (0 ≤ src e ∧ src e < n) ∧ (0 ≤ tgt e ∧ tgt e < n) ∧ src e ≠ tgt e
theorem dRel.rf {n m : Int} {src : Int → Int} {s : GD} : dRel n m src s s := ⟨fun _ _ _ _ => rfl, fun _ _ _ h => Or.inl h, fun _ _ _ _ => rfl⟩
theorem dRel.tr {n m : Int} {src tgt : Int → Int} {s q r : GD} (hE : dE n m src tgt) (h : dRel n m src s q) (h' : dRel n m src q r) : dRel n m src s r := by
  refine ⟨fun i i0 i1 hi => ?_, fun i i0 i1 hi => ?_, fun e e0 e1 he => ?_⟩
  · have a := h.1 i i0 i1 hi
    rw [h'.1 i i0 i1 (by rw [a]; exact hi)]; exact a
  · rcases h.2.1 i i0 i1 hi with c | c
    · exact h'.2.1 i i0 i1 c
    · exact Or.inr (by rw [h'.1 i i0 i1 (by omega)]; exact c)
  · have b := (hE e e0 e1).1
    have a := h.1 _ b.1 b.2 he
    rw [h'.2.2 e e0 e1 (by rw [a]; exact he)]; exact h.2.2 e e0 e1 he
theorem dRel.cn {n m : Int} {src : Int → Int} {s q : GD} (h : dRel n m src s q) : gCn q.1 0 n ≤ gCn s.1 0 n := gCn_l (fun i i0 i1 hi => by
  by_cases hc : s.1 i = 0
  · exact hc
  · have := h.1 i i0 i1 hc
    omega)
/-- one edge of the node a is looked at -/
def dStep (m : Nat) (src tgt : Int → Int) (f : Nat) (a e : Int) (q : GD) : GD := if src e = a then (if q.1 (tgt e) = 0 then gDfs m src tgt f (tgt e) q else if q.1 (tgt e) = 1 then (q.1, gUp q.2 e 1) else q) else q
theorem gDfs_s {m : Nat} {src tgt : Int → Int} {f : Nat} {a : Int} {s : GD} : gDfs m src tgt (f + 1) a s = (gUp (gFold (dStep m src tgt f a) m (gUp s.1 a 1, s.2)).1 a 2, (gFold (dStep m src tgt f a) m (gUp s.1 a 1, s.2)).2) := rfl
/-- the edges of the node a before k have been looked at -/
def dScan (m : Int) (src tgt : Int → Int) (a k : Int) (q : GD) : Prop := q.1 a = 1 ∧ ∀ e : Int, 0 ≤ e → e < m → src e = a → (e < k → (q.2 e = 0 ∧ q.1 (tgt e) = 2) ∨ (q.2 e = 1 ∧ q.1 (tgt e) = 1)) ∧ (k ≤ e → q.2 e = 0)
def dSpec (n m : Int) (src tgt : Int → Int) (s : GD) (a : Int) (r : GD) : Prop := dRel n m src s r ∧ r.1 a = 2 ∧ ∃ fin, dInv n m src tgt r fin
theorem dMark {n m : Int} {src tgt : Int → Int} {s : GD} {fin : Int → Int} {a : Int} (hE : dE n m src tgt) (a0 : 0 ≤ a) (a1 : a < n) (hs : s.1 a = 0) (hI : dInv n m src tgt s fin) : dInv n m src tgt (gUp s.1 a 1, s.2) fin ∧ dScan m src tgt a 0 (gUp s.1 a 1, s.2) ∧ gCn (gUp s.1 a 1) 0 n + 1 = gCn s.1 0 n := by
  obtain ⟨h1, h2, h3⟩ := hI
  have c2 : gCn (gUp s.1 a 1) 2 n = gCn s.1 2 n := by rw [gCn_u a0 a1, hs, if_neg (by omega), if_neg (by omega)]; omega
  refine ⟨⟨fun i i0 i1 => ?_, fun i i0 i1 hi => ?_, fun e e0 e1 => ?_⟩, ⟨gUp_e, fun e e0 e1 he => ⟨fun hk => by omega, fun _ => (h3 e e0 e1).2.1 (by rw [he]; exact hs)⟩⟩, ?_⟩
  · show gUp s.1 a 1 i = 0 ∨ gUp s.1 a 1 i = 1 ∨ gUp s.1 a 1 i = 2
    by_cases hc : i = a
    · rw [hc, gUp_e]; omega
    · rw [gUp_n hc]; exact h1 i i0 i1
  · have hi' : gUp s.1 a 1 i = 2 := hi
    have hc : i ≠ a := fun hc => by rw [hc, gUp_e] at hi'; omega
    rw [gUp_n hc] at hi'
    have := h2 i i0 i1 hi'
    show 0 ≤ fin i ∧ fin i < gCn (gUp s.1 a 1) 2 n
    rw [c2]; exact this
  · have ee := hE e e0 e1
    have x := h3 e e0 e1
    refine ⟨x.1, fun h => ?_, fun h => ?_⟩
    · have h' : gUp s.1 a 1 (src e) = 0 := h
      have hc : src e ≠ a := fun hc => by rw [hc, gUp_e] at h'; omega
      rw [gUp_n hc] at h'
      exact x.2.1 h'
    · have h' : gUp s.1 a 1 (src e) = 2 := h
      have hc : src e ≠ a := fun hc => by rw [hc, gUp_e] at h'; omega
      rw [gUp_n hc] at h'
      show (s.2 e = 0 ∧ gUp s.1 a 1 (tgt e) = 2 ∧ _) ∨ (s.2 e = 1 ∧ (gUp s.1 a 1 (tgt e) = 1 ∨ (gUp s.1 a 1 (tgt e) = 2 ∧ _)))
      by_cases hd : tgt e = a
      · rcases x.2.2 h' with ⟨_, y, _⟩ | ⟨_, y | ⟨y, _⟩⟩ <;> rw [hd] at y <;> omega
      · rw [gUp_n hd]; exact x.2.2 h'
  · rw [gCn_u a0 a1, hs, if_pos rfl, if_neg (by omega)]; omega
theorem dEnd {n m : Int} {src tgt : Int → Int} {q : GD} {fin : Int → Int} {a : Int} (hE : dE n m src tgt) (a0 : 0 ≤ a) (a1 : a < n) (hS : dScan m src tgt a m q) (hI : dInv n m src tgt q fin) : dInv n m src tgt (gUp q.1 a 2, q.2) (gUp fin a (gCn q.1 2 n)) := by
  obtain ⟨h1, h2, h3⟩ := hI
  have c2 : gCn (gUp q.1 a 2) 2 n = gCn q.1 2 n + 1 := by rw [gCn_u a0 a1, hS.1, if_neg (by omega), if_pos rfl]; omega
  have cb := gCn_b (p := q.1) (k := 2) (n := n) (by omega)
  refine ⟨fun i i0 i1 => ?_, fun i i0 i1 hi => ?_, fun e e0 e1 => ?_⟩
  · show gUp q.1 a 2 i = 0 ∨ gUp q.1 a 2 i = 1 ∨ gUp q.1 a 2 i = 2
    by_cases hc : i = a
    · rw [hc, gUp_e]; omega
    · rw [gUp_n hc]; exact h1 i i0 i1
  · have hi' : gUp q.1 a 2 i = 2 := hi
    show 0 ≤ gUp fin a (gCn q.1 2 n) i ∧ gUp fin a (gCn q.1 2 n) i < gCn (gUp q.1 a 2) 2 n
    rw [c2]
    by_cases hc : i = a
    · rw [hc, gUp_e]; omega
    · rw [gUp_n hc] at hi' ⊢
      have := h2 i i0 i1 hi'
      omega
  · have ee := hE e e0 e1
    have x := h3 e e0 e1
    refine ⟨x.1, fun h => ?_, fun h => ?_⟩
    · have h' : gUp q.1 a 2 (src e) = 0 := h
      have hc : src e ≠ a := fun hc => by rw [hc, gUp_e] at h'; omega
      rw [gUp_n hc] at h'
      exact x.2.1 h'
    · have h' : gUp q.1 a 2 (src e) = 2 := h
      show (q.2 e = 0 ∧ gUp q.1 a 2 (tgt e) = 2 ∧ gUp fin a (gCn q.1 2 n) (tgt e) < gUp fin a (gCn q.1 2 n) (src e)) ∨ (q.2 e = 1 ∧ (gUp q.1 a 2 (tgt e) = 1 ∨ (gUp q.1 a 2 (tgt e) = 2 ∧ gUp fin a (gCn q.1 2 n) (src e) < gUp fin a (gCn q.1 2 n) (tgt e))))
      by_cases hc : src e = a
      · have hd : tgt e ≠ a := by omega
        rw [hc, gUp_e, gUp_n hd, gUp_n hd]
        rcases (hS.2 e e0 e1 hc).1 e1 with ⟨y1, y2⟩ | ⟨y1, y2⟩
        · exact Or.inl ⟨y1, y2, (h2 _ ee.2.1.1 ee.2.1.2 y2).2⟩
        · exact Or.inr ⟨y1, Or.inl y2⟩
      · rw [gUp_n hc] at h' ⊢
        have f1 := (h2 _ ee.1.1 ee.1.2 h').2
        by_cases hd : tgt e = a
        · rw [hd, gUp_e, gUp_e]
          rcases x.2.2 h' with ⟨y0, y, _⟩ | ⟨y0, y⟩
          · rw [hd, hS.1] at y; omega
          · exact Or.inr ⟨y0, Or.inr ⟨rfl, f1⟩⟩
        · rw [gUp_n hd, gUp_n hd]; exact x.2.2 h'
theorem dRel_e {n m : Int} {src tgt : Int → Int} {s q : GD} {a : Int} (hE : dE n m src tgt) (hs : s.1 a = 0) (h : dRel n m src (gUp s.1 a 1, s.2) q) : dRel n m src s (gUp q.1 a 2, q.2) := by
  refine ⟨fun i i0 i1 hi => ?_, fun i i0 i1 hi => ?_, fun e e0 e1 he => ?_⟩
  · have hc : i ≠ a := fun hc => hi (by rw [hc]; exact hs)
    show gUp q.1 a 2 i = _
    rw [gUp_n hc]
    have := h.1 i i0 i1 (by show gUp s.1 a 1 i ≠ 0; rw [gUp_n hc]; exact hi)
    rw [this]
    exact gUp_n hc
  · show gUp q.1 a 2 i = 0 ∨ gUp q.1 a 2 i = 2
    by_cases hc : i = a
    · rw [hc, gUp_e]; exact Or.inr rfl
    · rw [gUp_n hc]
      exact h.2.1 i i0 i1 (by show gUp s.1 a 1 i = 0; rw [gUp_n hc]; exact hi)
  · have hc : src e ≠ a := fun hc => he (by rw [hc]; exact hs)
    exact h.2.2 e e0 e1 (by show gUp s.1 a 1 (src e) ≠ 0; rw [gUp_n hc]; exact he)
theorem dScan_n {m : Int} {src tgt : Int → Int} {a k : Int} {q : GD} (hS : dScan m src tgt a k q) (h : src k ≠ a) : dScan m src tgt a (k + 1) q := ⟨hS.1, fun e e0 e1 he => ⟨fun hk => (hS.2 e e0 e1 he).1 (by have : e ≠ k := fun hc => h (hc ▸ he); omega), fun hk => (hS.2 e e0 e1 he).2 (by omega)⟩⟩
theorem dScan_0 {n m : Int} {src tgt : Int → Int} {a k : Int} {q r : GD} (hE : dE n m src tgt) (a0 : 0 ≤ a) (a1 : a < n) (k0 : 0 ≤ k) (k1 : k < m) (hS : dScan m src tgt a k q) (h : src k = a) (hr : dRel n m src q r) (h2 : r.1 (tgt k) = 2) : dScan m src tgt a (k + 1) r := by
  have hv := hr.1 a a0 a1 (by rw [hS.1]; omega)
  refine ⟨by rw [hv]; exact hS.1, fun e e0 e1 he => ?_⟩
  have ee := hE e e0 e1
  have ht := hr.2.2 e e0 e1 (by rw [he, hS.1]; omega)
  have x := hS.2 e e0 e1 he
  rw [ht]
  refine ⟨fun hk => ?_, fun hk => x.2 (by omega)⟩
  by_cases hc : e = k
  · exact Or.inl ⟨x.2 (by omega), by rw [hc]; exact h2⟩
  · rcases x.1 (by omega) with ⟨y1, y2⟩ | ⟨y1, y2⟩
    · exact Or.inl ⟨y1, by rw [hr.1 _ ee.2.1.1 ee.2.1.2 (by omega)]; exact y2⟩
    · exact Or.inr ⟨y1, by rw [hr.1 _ ee.2.1.1 ee.2.1.2 (by omega)]; exact y2⟩
theorem dScan_1 {n m : Int} {src tgt : Int → Int} {a k : Int} {q : GD} (k0 : 0 ≤ k) (k1 : k < m) (hS : dScan m src tgt a k q) (h : src k = a) (h1 : q.1 (tgt k) = 1) : dScan m src tgt a (k + 1) (q.1, gUp q.2 k 1) := by
  refine ⟨hS.1, fun e e0 e1 he => ?_⟩
  have x := hS.2 e e0 e1 he
  show (e < k + 1 → (gUp q.2 k 1 e = 0 ∧ q.1 (tgt e) = 2) ∨ (gUp q.2 k 1 e = 1 ∧ q.1 (tgt e) = 1)) ∧ (k + 1 ≤ e → gUp q.2 k 1 e = 0)
  by_cases hc : e = k
  · subst hc
    rw [gUp_e]
    exact ⟨fun _ => Or.inr ⟨rfl, h1⟩, fun h => by omega⟩
  · rw [gUp_n hc]
    exact ⟨fun hk => x.1 (by omega), fun hk => x.2 (by omega)⟩
theorem dInv_1 {n m : Int} {src tgt : Int → Int} {a k : Int} {q : GD} {fin : Int → Int} (hq : q.1 a = 1) (h : src k = a) (hI : dInv n m src tgt q fin) : dInv n m src tgt (q.1, gUp q.2 k 1) fin := by
  obtain ⟨h1, h2, h3⟩ := hI
  refine ⟨h1, h2, fun e e0 e1 => ?_⟩
  have x := h3 e e0 e1
  show (gUp q.2 k 1 e = 0 ∨ gUp q.2 k 1 e = 1) ∧ (q.1 (src e) = 0 → gUp q.2 k 1 e = 0) ∧ (q.1 (src e) = 2 → (gUp q.2 k 1 e = 0 ∧ _) ∨ (gUp q.2 k 1 e = 1 ∧ _))
  by_cases hc : e = k
  · subst hc
    rw [gUp_e, h]
    exact ⟨Or.inr rfl, fun hh => by omega, fun hh => by omega⟩
  · rw [gUp_n hc]; exact x
theorem dfs_ok {n m : Int} {src tgt : Int → Int} (hm : 0 ≤ m) (hE : dE n m src tgt) : ∀ (f : Nat) (a : Int) (s : GD) (fin : Int → Int), 0 ≤ a → a < n → s.1 a = 0 → gCn s.1 0 n ≤ f → dInv n m src tgt s fin → dSpec n m src tgt s a (gDfs m.toNat src tgt f a s) := by
  intro f
  induction f with
  | zero =>
    intro a s fin a0 a1 hs hc _
    have := gCn_p a0 a1 hs
    omega
  | succ f ihf =>
    intro a s fin a0 a1 hs hc hI
    obtain ⟨m1, m2, m3⟩ := dMark hE a0 a1 hs hI
    have ss : ∀ e : Int, 0 ≤ e → e < m → src e = a → s.2 e = 0 := fun e e0 e1 he => (hI.2.2 e e0 e1).2.1 (by rw [he]; exact hs)
    have K := gFold_i (g := dStep m.toNat src tgt f a) (s := (gUp s.1 a 1, s.2)) (m := m.toNat) (fun k q => (∃ fin, dInv n m src tgt q fin) ∧ dScan m src tgt a k q ∧ (∀ i : Int, 0 ≤ i → i < n → gUp s.1 a 1 i ≠ 0 → q.1 i = gUp s.1 a 1 i) ∧ (∀ i : Int, 0 ≤ i → i < n → gUp s.1 a 1 i = 0 → q.1 i = 0 ∨ q.1 i = 2) ∧ ∀ e : Int, 0 ≤ e → e < m → s.1 (src e) ≠ 0 → q.2 e = s.2 e) ⟨⟨_, m1⟩, m2, fun _ _ _ _ => rfl, fun _ _ _ h => Or.inl h, fun _ _ _ _ => rfl⟩ (fun k q hk hP => ?_) m.toNat (Nat.le_refl _)
    · obtain ⟨⟨fin', k1⟩, k2, k3, k4, k5⟩ := K
      rw [show ((m.toNat : Nat) : Int) = m by omega] at k2
      rw [gDfs_s]
      refine ⟨⟨fun i i0 i1 hi => ?_, fun i i0 i1 hi => ?_, fun e e0 e1 he => ?_⟩, gUp_e, _, dEnd hE a0 a1 k2 k1⟩
      · have hd : i ≠ a := fun hd => hi (by rw [hd]; exact hs)
        show gUp _ a 2 i = _
        rw [gUp_n hd, k3 i i0 i1 (by rw [gUp_n hd]; exact hi), gUp_n hd]
      · show gUp _ a 2 i = 0 ∨ gUp _ a 2 i = 2
        by_cases hd : i = a
        · rw [hd, gUp_e]; exact Or.inr rfl
        · rw [gUp_n hd]
          exact k4 i i0 i1 (by rw [gUp_n hd]; exact hi)
      · exact k5 e e0 e1 he
    · obtain ⟨⟨fin', k1⟩, k2, k3, k4, k5⟩ := hP
      have kc : gCn q.1 0 n ≤ f := by
        have := gCn_l (p := q.1) (q := gUp s.1 a 1) (k := 0) (n := n) (fun i i0 i1 hi => by
          by_cases hd : gUp s.1 a 1 i = 0
          · exact hd
          · have := k3 i i0 i1 hd
            omega)
        omega
      show (∃ fin, dInv n m src tgt (dStep m.toNat src tgt f a k q) fin) ∧ dScan m src tgt a ((k : Int) + 1) (dStep m.toNat src tgt f a k q) ∧ _
      have ek := hE k (by omega) (by omega)
      unfold dStep
      by_cases h1 : src k = a
      · rw [if_pos h1]
        by_cases h2 : q.1 (tgt k) = 0
        · rw [if_pos h2]
          have r := ihf (tgt k) q fin' ek.2.1.1 ek.2.1.2 h2 kc k1
          refine ⟨r.2.2, dScan_0 hE a0 a1 (by omega) (by omega) k2 h1 r.1 r.2.1, fun i i0 i1 hi => ?_, fun i i0 i1 hi => ?_, fun e e0 e1 he => ?_⟩
          · have := k3 i i0 i1 hi
            rw [r.1.1 i i0 i1 (by omega)]; exact this
          · rcases k4 i i0 i1 hi with c | c
            · exact r.1.2.1 i i0 i1 c
            · exact Or.inr (by rw [r.1.1 i i0 i1 (by omega)]; exact c)
          · have ee := (hE e e0 e1).1
            have hd : src e ≠ a := fun hd => he (by rw [hd]; exact hs)
            have := k3 _ ee.1 ee.2 (by rw [gUp_n hd]; exact he)
            rw [gUp_n hd] at this
            rw [r.1.2.2 e e0 e1 (by rw [this]; exact he)]; exact k5 e e0 e1 he
        · rw [if_neg h2]
          by_cases h3 : q.1 (tgt k) = 1
          · rw [if_pos h3]
            refine ⟨⟨_, dInv_1 k2.1 h1 k1⟩, dScan_1 (n := n) (by omega) (by omega) k2 h1 h3, k3, k4, fun e e0 e1 he => ?_⟩
            have hd : e ≠ k := fun hd => he (by rw [hd, h1]; exact hs)
            show gUp q.2 k 1 e = _
            rw [gUp_n hd]; exact k5 e e0 e1 he
          · rw [if_neg h3]
            have h4 : q.1 (tgt k) = 2 := by
              have := k1.1 _ ek.2.1.1 ek.2.1.2
              omega
            exact ⟨⟨_, k1⟩, dScan_0 hE a0 a1 (by omega) (by omega) k2 h1 dRel.rf h4, k3, k4, k5⟩
      · rw [if_neg h1]
        exact ⟨⟨_, k1⟩, dScan_n k2 h1, k3, k4, k5⟩
def dTop (m : Nat) (src tgt : Int → Int) (a : Int) (q : GD) : GD := if q.1 a = 0 then gDfs m src tgt 12 a q else q
def dAll (n m : Int) (src tgt : Int → Int) (k : Int) (q : GD) : Prop := (∃ fin, dInv n m src tgt q fin) ∧ (∀ i : Int, 0 ≤ i → i < n → q.1 i = 0 ∨ q.1 i = 2) ∧ ∀ i : Int, 0 ≤ i → i < k → q.1 i = 2
theorem dAll_0 {n m : Int} {src tgt : Int → Int} : dAll n m src tgt 0 (fun _ => 0, fun _ => 0) := ⟨⟨fun _ => 0, fun _ _ _ => Or.inl rfl, fun _ _ _ h => by have h' : (0 : Int) = 2 := h; omega, fun _ _ _ => ⟨Or.inl rfl, fun _ => rfl, fun h => by have h' : (0 : Int) = 2 := h; omega⟩⟩, fun _ _ _ => Or.inl rfl, fun _ _ _ => by omega⟩
theorem dAll_s {n m : Int} {src tgt : Int → Int} {k : Int} {q : GD} (hn : n ≤ 12) (hm : 0 ≤ m) (hE : dE n m src tgt) (k0 : 0 ≤ k) (k1 : k < n) (h : dAll n m src tgt k q) : dAll n m src tgt (k + 1) (dTop m.toNat src tgt k q) ∧ (q.1 k = 0 → dSpec n m src tgt q k (gDfs m.toNat src tgt 12 k q)) := by
  obtain ⟨⟨fin, h1⟩, h2, h3⟩ := h
  have cb := gCn_b (p := q.1) (k := 0) (n := n) (by omega)
  have sp : q.1 k = 0 → dSpec n m src tgt q k (gDfs m.toNat src tgt 12 k q) := fun hc => dfs_ok hm hE 12 k q fin k0 k1 hc (by omega) h1
  refine ⟨?_, sp⟩
  unfold dTop
  by_cases hc : q.1 k = 0
  · rw [if_pos hc]
    have r := sp hc
    refine ⟨r.2.2, fun i i0 i1 => ?_, fun i i0 i1 => ?_⟩
    · rcases h2 i i0 i1 with c | c
      · exact r.1.2.1 i i0 i1 c
      · exact Or.inr (by rw [r.1.1 i i0 i1 (by omega)]; exact c)
    · by_cases hd : i = k
      · rw [hd]; exact r.2.1
      · have := h3 i i0 (by omega)
        rw [r.1.1 i i0 (by omega) (by omega)]; exact this
  · rw [if_neg hc]
    refine ⟨⟨_, h1⟩, h2, fun i i0 i1 => ?_⟩
    by_cases hd : i = k
    · rw [hd]; have := h2 k k0 k1; omega
    · exact h3 i i0 (by omega)
theorem dirs_all {n m : Int} {src tgt : Int → Int} (hn0 : 0 ≤ n) (hn : n ≤ 12) (hm : 0 ≤ m) (hE : dE n m src tgt) : ∀ k : Nat, k ≤ n.toNat → dAll n m src tgt k (gFold (dTop m.toNat src tgt) k (fun _ => 0, fun _ => 0)) :=
  gFold_i (g := dTop m.toNat src tgt) (fun k q => dAll n m src tgt k q) dAll_0 (fun k q hk h => (dAll_s hn hm hE (by omega) (by omega) h).1)
theorem gDirs_s {n m : Nat} {src tgt : Int → Int} : gDirs n m src tgt = gFold (dTop m src tgt) n (fun _ => 0, fun _ => 0) := rfl
theorem dirs_ok {n m : Int} {src tgt : Int → Int} (hn0 : 0 ≤ n) (hn : n ≤ 12) (hm : 0 ≤ m) (hE : dE n m src tgt) : ∃ q : Int → Int, (∀ i : Int, 0 ≤ i → i < n → 0 ≤ q i ∧ q i ≤ 11) ∧ ∀ e : Int, 0 ≤ e → e < m → ((gDirs n.toNat m.toNat src tgt).2 e = 0 ∧ q (src e) < q (tgt e)) ∨ ((gDirs n.toNat m.toNat src tgt).2 e = 1 ∧ q (tgt e) < q (src e)) := by
  obtain ⟨⟨fin, h1⟩, h2, h3⟩ := dirs_all hn0 hn hm hE n.toNat (Nat.le_refl _)
  rw [← gDirs_s] at h1 h2 h3
  have cb := gCn_b (p := (gDirs n.toNat m.toNat src tgt).1) (k := 2) (n := n) hn0
  refine ⟨fun i => gCn (gDirs n.toNat m.toNat src tgt).1 2 n - 1 - fin i, fun i i0 i1 => ?_, fun e e0 e1 => ?_⟩
  · have := h1.2.1 i i0 i1 (h3 i i0 (by omega))
    show 0 ≤ gCn (gDirs n.toNat m.toNat src tgt).1 2 n - 1 - fin i ∧ gCn (gDirs n.toNat m.toNat src tgt).1 2 n - 1 - fin i ≤ 11
    omega
  · have ee := hE e e0 e1
    have x := (h1.2.2 e e0 e1).2.2 (h3 _ ee.1.1 (by omega))
    have y := h3 _ ee.2.1.1 (by omega : tgt e < (n.toNat : Int))
    show (_ ∧ gCn (gDirs n.toNat m.toNat src tgt).1 2 n - 1 - fin (src e) < gCn (gDirs n.toNat m.toNat src tgt).1 2 n - 1 - fin (tgt e)) ∨ (_ ∧ gCn (gDirs n.toNat m.toNat src tgt).1 2 n - 1 - fin (tgt e) < gCn (gDirs n.toNat m.toNat src tgt).1 2 n - 1 - fin (src e))
    rcases x with ⟨z1, z2, z3⟩ | ⟨z1, z2 | ⟨z2, z3⟩⟩
    · exact Or.inl ⟨z1, by omega⟩
    · omega
    · exact Or.inr ⟨z1, by omega⟩
